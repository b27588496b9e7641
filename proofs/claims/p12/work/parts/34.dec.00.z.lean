section Qz1
/-! the reference's methods as functions (printed by wip/dec.py) -/
section MD
variable {t : gT} {lg : Nat → Nat} {d : Nat} {c : Nat × Nat} {B : Nat → List gE} {F : Nat → Int32} {A : Nat → Nat → Int32} {J : Nat → Nat → Int64}
def d_put_3 : Nat → (Nat → Int32) → (Nat → Nat → Int32) → (Nat → Nat → Int64) → Int32 → Int32 → Option (Unit × (Nat → Int32) × (Nat → Nat → Int32) × (Nat → Nat → Int64))
  | 0, _, _, _, _, _ => none
  | n + 1, F, A, J, x1, x2 => cond (g_cnd .lt x2 0)
    (some ((), F, A, J))
    ((m_st A 1 2000 (F 2) (vp_nar .byte ((x1 >>> (x2 &&& 31)).toInt8.toInt32))).bind fun A2 =>
    (m_pf F 2 ((F 2) + 1)).bind fun F3 =>
    (d_put_3 n) F3 A2 J x1 (x2 + (-8)))
theorem t_d_put_3 (ht : ∀ k, t.1 12 k = k_ty 12 k) {n : Nat}  {F : Nat → Int32} {A : Nat → Nat → Int32} {J : Nat → Nat → Int64} {x1 : Int32} {x2 : Int32} {w : Unit × (Nat → Int32) × (Nat → Nat → Int32) × (Nat → Nat → Int64)} : d_put_3 n F A J x1 x2 = some w → k_run t lg (d) 140 3 [(0, .ref 40960), (1, .int x1), (2, .int x2)] [] (m_h c B F A J) (none, m_h c B w.2.1 w.2.2.1 w.2.2.2) := by
  induction n generalizing F A J x1 x2 w with
  | zero => intro hD; cases hD
  | succ n ih =>
    intro hD
    have hK3 : ∀ (F : Nat → Int32) (A : Nat → Nat → Int32) (J : Nat → Nat → Int64) (x1 : Int32) (x2 : Int32) (w : Unit × (Nat → Int32) × (Nat → Nat → Int32) × (Nat → Nat → Int64)), d_put_3 n F A J x1 x2 = some w → k_run t lg (d) 140 3 [(0, .ref 40960), (1, .int x1), (2, .int x2)] [] (m_h c B F A J) (none, m_h c B w.2.1 w.2.2.1 w.2.2.2) := fun _ _ _ _ _ _ h => ih h
    unfold d_put_3 at hD
    refine k_runB (pc' := 4) (loc' := [(0, .ref 40960), (1, .int x1), (2, .int x2)]) (st' := [.int x2]) 1 rfl ?_
    refine k_if rfl (fun c4_0 => ?_) (fun c4_0 => ?_)
    · rw [c4_0, cond_true] at hD
      cases hD
      exact k_vret rfl rfl
    · rw [c4_0, cond_false] at hD
      refine k_runB (pc' := 19) (loc' := [(0, .ref 40960), (1, .int x1), (2, .int x2)]) (st' := [.int ((x1 >>> (x2 &&& 31)).toInt8.toInt32), .int (F 2), .ref 40961]) 8 rfl ?_
      obtain ⟨A2, hA2, hD⟩ := Option.bind_eq_some_iff.mp hD
      refine k_stB 1 rfl rfl (fun _ => rfl) hA2 ?_
      refine k_runB (pc' := 27) (loc' := [(0, .ref 40960), (1, .int x1), (2, .int x2)]) (st' := [.int ((F 2) + 1), .ref 40960]) 5 rfl ?_
      obtain ⟨F3, hF3, hD⟩ := Option.bind_eq_some_iff.mp hD
      refine k_ptI rfl (ht 2) rfl rfl hF3 ?_
      refine k_runB (pc' := 3) (loc' := [(0, .ref 40960), (1, .int x1), (2, .int (x2 + (-8)))]) (st' := []) 2 rfl ?_
      refine k_wk [0, 1, 2] (loc' := [(0, .ref 40960), (1, .int x1), (2, .int (x2 + (-8)))]) rfl rfl ?_
      exact hK3 _ _ _ _ _ _ hD
/-- SleepWorkModel.put(I)V -/
def d_put (n : Nat) (F : Nat → Int32) (A : Nat → Nat → Int32) (J : Nat → Nat → Int64) (x1 : Int32) : Option (Unit × (Nat → Int32) × (Nat → Nat → Int32) × (Nat → Nat → Int64)) :=
  d_put_3 n F A J x1 24
theorem t_d_put (ht : ∀ k, t.1 12 k = k_ty 12 k) {n : Nat} {x1 : Int32} {r : Unit} {F' : Nat → Int32} {A' : Nat → Nat → Int32} {J' : Nat → Nat → Int64} : d_put n F A J x1 = some (r, F', A', J') → k_run t lg (d) 140 0 [(0, .ref 40960), (1, .int x1)] [] (m_h c B F A J) (none, m_h c B F' A' J') := by
  intro hD
  unfold d_put at hD
  refine k_runB (pc' := 3) (loc' := [(0, .ref 40960), (1, .int x1), (2, .int 24)]) (st' := []) 2 rfl ?_
  refine k_wk [0, 1, 2] (loc' := [(0, .ref 40960), (1, .int x1), (2, .int 24)]) rfl rfl ?_
  exact t_d_put_3 ht  hD
/-- SleepWorkModel.back(I)I -/
def d_back (F : Nat → Int32) (A : Nat → Nat → Int32) (J : Nat → Nat → Int64) (x1 : Int32) : Option (Int32 × (Nat → Int32) × (Nat → Nat → Int32) × (Nat → Nat → Int64)) :=
  cond (g_cnd .lt x1 0)
  (some ((-1), F, A, J))
  (cond (g_cnd .le x1 (F 2))
  ((m_pf F 2 ((F 2) - x1)).bind fun F3 =>
  some (F3 2, F3, A, J))
  (some ((-1), F, A, J)))
theorem t_d_back (ht : ∀ k, t.1 12 k = k_ty 12 k) {x1 : Int32} {r : Int32} {F' : Nat → Int32} {A' : Nat → Nat → Int32} {J' : Nat → Nat → Int64} : d_back F A J x1 = some (r, F', A', J') → k_run t lg (d) 141 0 [(0, .ref 40960), (1, .int x1)] [] (m_h c B F A J) (some (.int r), m_h c B F' A' J') := by
  intro hD
  unfold d_back at hD
  refine k_runB (pc' := 1) (loc' := [(0, .ref 40960), (1, .int x1)]) (st' := [.int x1]) 1 rfl ?_
  refine k_if rfl (fun c1_0 => ?_) (fun c1_0 => ?_)
  · rw [c1_0, cond_true] at hD
    refine k_runB (pc' := 13) (loc' := [(0, .ref 40960), (1, .int x1)]) (st' := [.int ((-1))]) 1 rfl ?_
    cases hD
    exact k_iret rfl rfl
  · rw [c1_0, cond_false] at hD
    refine k_runB (pc' := 9) (loc' := [(0, .ref 40960), (1, .int x1)]) (st' := [.int (F 2), .int x1]) 3 rfl ?_
    refine k_ic rfl (fun c9_1 => ?_) (fun c9_1 => ?_)
    · rw [c9_1, cond_true] at hD
      refine k_runB (pc' := 21) (loc' := [(0, .ref 40960), (1, .int x1)]) (st' := [.int ((F 2) - x1), .ref 40960]) 5 rfl ?_
      obtain ⟨F3, hF3, hD⟩ := Option.bind_eq_some_iff.mp hD
      refine k_ptI rfl (ht 2) rfl rfl hF3 ?_
      refine k_runB (pc' := 28) (loc' := [(0, .ref 40960), (1, .int x1)]) (st' := [.int (F3 2)]) 2 rfl ?_
      cases hD
      exact k_iret rfl rfl
    · rw [c9_1, cond_false] at hD
      refine k_runB (pc' := 13) (loc' := [(0, .ref 40960), (1, .int x1)]) (st' := [.int ((-1))]) 1 rfl ?_
      cases hD
      exact k_iret rfl rfl
/-- SleepWorkModel.byteAt(I)I -/
def d_byteAt (F : Nat → Int32) (A : Nat → Nat → Int32) (J : Nat → Nat → Int64) (x1 : Int32) : Option Int32 :=
  cond (g_cnd .ge x1 (F 4))
  (some (0))
  ((m_ld (A 2) 2000 x1).bind fun v2 =>
  some (v2 &&& 255))
theorem t_d_byteAt {x1 : Int32} {r : Int32} : d_byteAt F A J x1 = some r → k_run t lg (d) 142 0 [(0, .ref 40960), (1, .int x1)] [] (m_h c B F A J) (some (.int r), m_h c B F A J) := by
  intro hD
  unfold d_byteAt at hD
  refine k_runB (pc' := 5) (loc' := [(0, .ref 40960), (1, .int x1)]) (st' := [.int (F 4), .int x1]) 3 rfl ?_
  refine k_ic rfl (fun c5_0 => ?_) (fun c5_0 => ?_)
  · rw [c5_0, cond_true] at hD
    refine k_runB (pc' := 22) (loc' := [(0, .ref 40960), (1, .int x1)]) (st' := [.int 0]) 1 rfl ?_
    cases hD
    exact k_iret rfl rfl
  · rw [c5_0, cond_false] at hD
    refine k_runB (pc' := 13) (loc' := [(0, .ref 40960), (1, .int x1)]) (st' := [.int x1, .ref 40962]) 3 rfl ?_
    obtain ⟨v2, hv2, hD⟩ := Option.bind_eq_some_iff.mp hD
    refine k_ldB rfl rfl hv2 ?_
    refine k_runB (pc' := 22) (loc' := [(0, .ref 40960), (1, .int x1)]) (st' := [.int (v2 &&& 255)]) 3 rfl ?_
    cases hD
    exact k_iret rfl rfl
/-- SleepWorkModel.isDigit(I)Z -/
def d_isDigit (x0 : Int32) : Option Int32 :=
  cond (g_cnd .lt x0 48)
  (some (0))
  (cond (g_cnd .gt x0 57)
  (some (0))
  (some (1)))
theorem t_d_isDigit {x0 : Int32} {r : Int32} : d_isDigit x0 = some r → k_run t lg (d) 143 0 [(0, .int x0)] [] (m_h c B F A J) (some (.int r), m_h c B F A J) := by
  intro hD
  unfold d_isDigit at hD
  refine k_runB (pc' := 3) (loc' := [(0, .int x0)]) (st' := [.int 48, .int x0]) 2 rfl ?_
  refine k_ic rfl (fun c3_0 => ?_) (fun c3_0 => ?_)
  · rw [c3_0, cond_true] at hD
    refine k_runB (pc' := 17) (loc' := [(0, .int x0)]) (st' := [.int 0]) 1 rfl ?_
    cases hD
    exact k_zret rfl rfl (Or.inl rfl)
  · rw [c3_0, cond_false] at hD
    refine k_runB (pc' := 9) (loc' := [(0, .int x0)]) (st' := [.int 57, .int x0]) 2 rfl ?_
    refine k_ic rfl (fun c9_1 => ?_) (fun c9_1 => ?_)
    · rw [c9_1, cond_true] at hD
      refine k_runB (pc' := 17) (loc' := [(0, .int x0)]) (st' := [.int 0]) 1 rfl ?_
      cases hD
      exact k_zret rfl rfl (Or.inl rfl)
    · rw [c9_1, cond_false] at hD
      refine k_runB (pc' := 17) (loc' := [(0, .int x0)]) (st' := [.int 1]) 2 rfl ?_
      cases hD
      exact k_zret rfl rfl (Or.inr rfl)
/-- SleepWorkModel.isLetter(I)Z -/
def d_isLetter (x0 : Int32) : Option Int32 :=
  cond (g_cnd .lt x0 97)
  (some (0))
  (cond (g_cnd .gt x0 122)
  (some (0))
  (some (1)))
theorem t_d_isLetter {x0 : Int32} {r : Int32} : d_isLetter x0 = some r → k_run t lg (d) 144 0 [(0, .int x0)] [] (m_h c B F A J) (some (.int r), m_h c B F A J) := by
  intro hD
  unfold d_isLetter at hD
  refine k_runB (pc' := 3) (loc' := [(0, .int x0)]) (st' := [.int 97, .int x0]) 2 rfl ?_
  refine k_ic rfl (fun c3_0 => ?_) (fun c3_0 => ?_)
  · rw [c3_0, cond_true] at hD
    refine k_runB (pc' := 17) (loc' := [(0, .int x0)]) (st' := [.int 0]) 1 rfl ?_
    cases hD
    exact k_zret rfl rfl (Or.inl rfl)
  · rw [c3_0, cond_false] at hD
    refine k_runB (pc' := 9) (loc' := [(0, .int x0)]) (st' := [.int 122, .int x0]) 2 rfl ?_
    refine k_ic rfl (fun c9_1 => ?_) (fun c9_1 => ?_)
    · rw [c9_1, cond_true] at hD
      refine k_runB (pc' := 17) (loc' := [(0, .int x0)]) (st' := [.int 0]) 1 rfl ?_
      cases hD
      exact k_zret rfl rfl (Or.inl rfl)
    · rw [c9_1, cond_false] at hD
      refine k_runB (pc' := 17) (loc' := [(0, .int x0)]) (st' := [.int 1]) 2 rfl ?_
      cases hD
      exact k_zret rfl rfl (Or.inr rfl)
/-- SleepWorkModel.appends(JI)J -/
def d_appends (x0 : Int64) (x2 : Int32) : Option Int64 :=
  cond (g_cnd .ne x2 0)
  (some ((27 * x0) + (((x2 - 97) + 1).toInt64)))
  (some (x0))
theorem t_d_appends {x0 : Int64} {x2 : Int32} {r : Int64} : d_appends x0 x2 = some r → k_run t lg (d) 145 0 [(0, .long (x0)), (2, .int x2)] [] (m_h c B F A J) (some (.long r), m_h c B F A J) := by
  intro hD
  unfold d_appends at hD
  refine k_runB (pc' := 1) (loc' := [(0, .long (x0)), (2, .int x2)]) (st' := [.int x2]) 1 rfl ?_
  refine k_if rfl (fun c1_0 => ?_) (fun c1_0 => ?_)
  · rw [c1_0, cond_true] at hD
    refine k_runB (pc' := 21) (loc' := [(0, .long (x0)), (2, .int x2)]) (st' := [.long ((27 * x0) + (((x2 - 97) + 1).toInt64))]) 10 rfl ?_
    cases hD
    exact k_lret rfl rfl
  · rw [c1_0, cond_false] at hD
    refine k_runB (pc' := 21) (loc' := [(0, .long (x0)), (2, .int x2)]) (st' := [.long (x0)]) 2 rfl ?_
    cases hD
    exact k_lret rfl rfl
/-- SleepWorkModel.word(IIIIIII)J -/
def d_word (x0 : Int32) (x1 : Int32) (x2 : Int32) (x3 : Int32) (x4 : Int32) (x5 : Int32) (x6 : Int32) : Option Int64 :=
  (d_appends 0 x0).bind fun v1 =>
  (d_appends v1 x1).bind fun v2 =>
  (d_appends v2 x2).bind fun v3 =>
  (d_appends v3 x3).bind fun v4 =>
  (d_appends v4 x4).bind fun v5 =>
  (d_appends v5 x5).bind fun v6 =>
  (d_appends v6 x6).bind fun v7 =>
  some (v7)
theorem t_d_word {x0 : Int32} {x1 : Int32} {x2 : Int32} {x3 : Int32} {x4 : Int32} {x5 : Int32} {x6 : Int32} {r : Int64} : d_word x0 x1 x2 x3 x4 x5 x6 = some r → k_run t lg (d + 1) 146 0 [(0, .int x0), (1, .int x1), (2, .int x2), (3, .int x3), (4, .int x4), (5, .int x5), (6, .int x6)] [] (m_h c B F A J) (some (.long r), m_h c B F A J) := by
  intro hD
  unfold d_word at hD
  refine k_runB (pc' := 2) (loc' := [(0, .int x0), (1, .int x1), (2, .int x2), (3, .int x3), (4, .int x4), (5, .int x5), (6, .int x6)]) (st' := [.int x0, .long (0)]) 2 rfl ?_
  obtain ⟨v1, hv1, hD⟩ := Option.bind_eq_some_iff.mp hD
  refine k_runC rfl rfl rfl rfl (t_d_appends (d := d) hv1) ?_
  refine k_runB (pc' := 6) (loc' := [(0, .int x0), (1, .int x1), (2, .int x2), (3, .int x3), (4, .int x4), (5, .int x5), (6, .int x6)]) (st' := [.int x1, .long (v1)]) 1 rfl ?_
  obtain ⟨v2, hv2, hD⟩ := Option.bind_eq_some_iff.mp hD
  refine k_runC rfl rfl rfl rfl (t_d_appends (d := d) hv2) ?_
  refine k_runB (pc' := 10) (loc' := [(0, .int x0), (1, .int x1), (2, .int x2), (3, .int x3), (4, .int x4), (5, .int x5), (6, .int x6)]) (st' := [.int x2, .long (v2)]) 1 rfl ?_
  obtain ⟨v3, hv3, hD⟩ := Option.bind_eq_some_iff.mp hD
  refine k_runC rfl rfl rfl rfl (t_d_appends (d := d) hv3) ?_
  refine k_runB (pc' := 14) (loc' := [(0, .int x0), (1, .int x1), (2, .int x2), (3, .int x3), (4, .int x4), (5, .int x5), (6, .int x6)]) (st' := [.int x3, .long (v3)]) 1 rfl ?_
  obtain ⟨v4, hv4, hD⟩ := Option.bind_eq_some_iff.mp hD
  refine k_runC rfl rfl rfl rfl (t_d_appends (d := d) hv4) ?_
  refine k_runB (pc' := 19) (loc' := [(0, .int x0), (1, .int x1), (2, .int x2), (3, .int x3), (4, .int x4), (5, .int x5), (6, .int x6)]) (st' := [.int x4, .long (v4)]) 1 rfl ?_
  obtain ⟨v5, hv5, hD⟩ := Option.bind_eq_some_iff.mp hD
  refine k_runC rfl rfl rfl rfl (t_d_appends (d := d) hv5) ?_
  refine k_runB (pc' := 24) (loc' := [(0, .int x0), (1, .int x1), (2, .int x2), (3, .int x3), (4, .int x4), (5, .int x5), (6, .int x6)]) (st' := [.int x5, .long (v5)]) 1 rfl ?_
  obtain ⟨v6, hv6, hD⟩ := Option.bind_eq_some_iff.mp hD
  refine k_runC rfl rfl rfl rfl (t_d_appends (d := d) hv6) ?_
  refine k_runB (pc' := 29) (loc' := [(0, .int x0), (1, .int x1), (2, .int x2), (3, .int x3), (4, .int x4), (5, .int x5), (6, .int x6)]) (st' := [.int x6, .long (v6)]) 1 rfl ?_
  obtain ⟨v7, hv7, hD⟩ := Option.bind_eq_some_iff.mp hD
  refine k_runC rfl rfl rfl rfl (t_d_appends (d := d) hv7) ?_
  cases hD
  exact k_lret rfl rfl
/-- SleepWorkModel.token(IIIJ)V -/
def d_token (F : Nat → Int32) (A : Nat → Nat → Int32) (J : Nat → Nat → Int64) (x1 : Int32) (x2 : Int32) (x3 : Int32) (x4 : Int64) : Option (Unit × (Nat → Int32) × (Nat → Nat → Int32) × (Nat → Nat → Int64)) :=
  (m_st A 3 403 (F 10) x1).bind fun A1 =>
  (m_st A1 4 403 (F 10) x2).bind fun A2 =>
  (m_st A2 5 403 (F 10) x3).bind fun A3 =>
  (m_stJ J 6 403 (F 10) x4).bind fun J4 =>
  (m_pf F 10 ((F 10) + 1)).bind fun F5 =>
  some ((), F5, A3, J4)
theorem t_d_token (ht : ∀ k, t.1 12 k = k_ty 12 k) {x1 : Int32} {x2 : Int32} {x3 : Int32} {x4 : Int64} {r : Unit} {F' : Nat → Int32} {A' : Nat → Nat → Int32} {J' : Nat → Nat → Int64} : d_token F A J x1 x2 x3 x4 = some (r, F', A', J') → k_run t lg (d) 147 0 [(0, .ref 40960), (1, .int x1), (2, .int x2), (3, .int x3), (4, .long (x4))] [] (m_h c B F A J) (none, m_h c B F' A' J') := by
  intro hD
  unfold d_token at hD
  refine k_runB (pc' := 9) (loc' := [(0, .ref 40960), (1, .int x1), (2, .int x2), (3, .int x3), (4, .long (x4))]) (st' := [.int x1, .int (F 10), .ref 40963]) 5 rfl ?_
  obtain ⟨A1, hA1, hD⟩ := Option.bind_eq_some_iff.mp hD
  refine k_stI 3 rfl rfl (fun _ => rfl) hA1 ?_
  refine k_runB (pc' := 19) (loc' := [(0, .ref 40960), (1, .int x1), (2, .int x2), (3, .int x3), (4, .long (x4))]) (st' := [.int x2, .int (F 10), .ref 40964]) 5 rfl ?_
  obtain ⟨A2, hA2, hD⟩ := Option.bind_eq_some_iff.mp hD
  refine k_stI 4 rfl rfl (fun _ => rfl) hA2 ?_
  refine k_runB (pc' := 29) (loc' := [(0, .ref 40960), (1, .int x1), (2, .int x2), (3, .int x3), (4, .long (x4))]) (st' := [.int x3, .int (F 10), .ref 40965]) 5 rfl ?_
  obtain ⟨A3, hA3, hD⟩ := Option.bind_eq_some_iff.mp hD
  refine k_stI 5 rfl rfl (fun _ => rfl) hA3 ?_
  refine k_runB (pc' := 40) (loc' := [(0, .ref 40960), (1, .int x1), (2, .int x2), (3, .int x3), (4, .long (x4))]) (st' := [.long (x4), .int (F 10), .ref 40966]) 5 rfl ?_
  obtain ⟨J4, hJ4, hD⟩ := Option.bind_eq_some_iff.mp hD
  refine k_stL 6 rfl rfl (fun _ => rfl) hJ4 ?_
  refine k_runB (pc' := 48) (loc' := [(0, .ref 40960), (1, .int x1), (2, .int x2), (3, .int x3), (4, .long (x4))]) (st' := [.int ((F 10) + 1), .ref 40960]) 5 rfl ?_
  obtain ⟨F5, hF5, hD⟩ := Option.bind_eq_some_iff.mp hD
  refine k_ptI rfl (ht 10) rfl rfl hF5 ?_
  cases hD
  exact k_vret rfl rfl
def d_sign_95 (F : Nat → Int32) (A : Nat → Nat → Int32) (J : Nat → Nat → Int64) (x1 : Int32) (x4 : Int32) : Option (Int32 × (Nat → Int32) × (Nat → Nat → Int32) × (Nat → Nat → Int64)) :=
    (d_token F A J x4 x1 0 0).bind fun (_, F11, A12, J13) =>
    some (1, F11, A12, J13)
theorem t_d_sign_95 (ht : ∀ k, t.1 12 k = k_ty 12 k)  {F : Nat → Int32} {A : Nat → Nat → Int32} {J : Nat → Nat → Int64} {x1 : Int32} {x4 : Int32} {w : Int32 × (Nat → Int32) × (Nat → Nat → Int32) × (Nat → Nat → Int64)} : d_sign_95 F A J x1 x4 = some w → k_run t lg (d + 1) 149 95 [(0, .ref 40960), (1, .int x1), (4, .int x4)] [] (m_h c B F A J) (some (.int w.1), m_h c B w.2.1 w.2.2.1 w.2.2.2) := by
  intro hD
  unfold d_sign_95 at hD
  refine k_runB (pc' := 101) (loc' := [(0, .ref 40960), (1, .int x1), (4, .int x4)]) (st' := [.long (0), .int 0, .int x1, .int x4, .ref 40960]) 5 rfl ?_
  obtain ⟨⟨v10, F11, A12, J13⟩, hv10, hD⟩ := Option.bind_eq_some_iff.mp hD
  dsimp only at hD
  refine k_runC rfl rfl rfl rfl (t_d_token (d := d) ht hv10) ?_
  refine k_runB (pc' := 105) (loc' := [(0, .ref 40960), (1, .int x1), (4, .int x4)]) (st' := [.int 1]) 1 rfl ?_
  cases hD
  exact k_iret rfl rfl
def d_sign_85 (F : Nat → Int32) (A : Nat → Nat → Int32) (J : Nat → Nat → Int64) (x1 : Int32) (x2 : Int32) (x4 : Int32) : Option (Int32 × (Nat → Int32) × (Nat → Nat → Int32) × (Nat → Nat → Int64)) :=
    cond (g_cnd .ne x2 60)
    (d_sign_95 F A J x1 x4)
    (d_sign_95 F A J x1 13)
theorem t_d_sign_85 (ht : ∀ k, t.1 12 k = k_ty 12 k)  {F : Nat → Int32} {A : Nat → Nat → Int32} {J : Nat → Nat → Int64} {x1 : Int32} {x2 : Int32} {x4 : Int32} {w : Int32 × (Nat → Int32) × (Nat → Nat → Int32) × (Nat → Nat → Int64)} : d_sign_85 F A J x1 x2 x4 = some w → k_run t lg (d + 1) 149 85 [(0, .ref 40960), (1, .int x1), (2, .int x2), (4, .int x4)] [] (m_h c B F A J) (some (.int w.1), m_h c B w.2.1 w.2.2.1 w.2.2.2) := by
  intro hD
  unfold d_sign_85 at hD
  refine k_runB (pc' := 88) (loc' := [(0, .ref 40960), (1, .int x1), (2, .int x2), (4, .int x4)]) (st' := [.int 60, .int x2]) 2 rfl ?_
  refine k_ic rfl (fun c88_8 => ?_) (fun c88_8 => ?_)
  · rw [c88_8, cond_true] at hD
    refine k_wk [0, 1, 4] (loc' := [(0, .ref 40960), (1, .int x1), (4, .int x4)]) rfl rfl ?_
    exact t_d_sign_95 ht  hD
  · rw [c88_8, cond_false] at hD
    refine k_runB (pc' := 95) (loc' := [(0, .ref 40960), (1, .int x1), (2, .int x2), (4, .int 13)]) (st' := []) 2 rfl ?_
    refine k_wk [0, 1, 4] (loc' := [(0, .ref 40960), (1, .int x1), (4, .int 13)]) rfl rfl ?_
    exact t_d_sign_95 ht  hD
def d_sign_75 (F : Nat → Int32) (A : Nat → Nat → Int32) (J : Nat → Nat → Int64) (x1 : Int32) (x2 : Int32) (x4 : Int32) : Option (Int32 × (Nat → Int32) × (Nat → Nat → Int32) × (Nat → Nat → Int64)) :=
    cond (g_cnd .ne x2 47)
    (d_sign_85 F A J x1 x2 x4)
    (d_sign_85 F A J x1 x2 15)
theorem t_d_sign_75 (ht : ∀ k, t.1 12 k = k_ty 12 k)  {F : Nat → Int32} {A : Nat → Nat → Int32} {J : Nat → Nat → Int64} {x1 : Int32} {x2 : Int32} {x4 : Int32} {w : Int32 × (Nat → Int32) × (Nat → Nat → Int32) × (Nat → Nat → Int64)} : d_sign_75 F A J x1 x2 x4 = some w → k_run t lg (d + 1) 149 75 [(0, .ref 40960), (1, .int x1), (2, .int x2), (4, .int x4)] [] (m_h c B F A J) (some (.int w.1), m_h c B w.2.1 w.2.2.1 w.2.2.2) := by
  intro hD
  unfold d_sign_75 at hD
  refine k_runB (pc' := 78) (loc' := [(0, .ref 40960), (1, .int x1), (2, .int x2), (4, .int x4)]) (st' := [.int 47, .int x2]) 2 rfl ?_
  refine k_ic rfl (fun c78_7 => ?_) (fun c78_7 => ?_)
  · rw [c78_7, cond_true] at hD
    refine k_wk [0, 1, 2, 4] (loc' := [(0, .ref 40960), (1, .int x1), (2, .int x2), (4, .int x4)]) rfl rfl ?_
    exact t_d_sign_85 ht  hD
  · rw [c78_7, cond_false] at hD
    refine k_runB (pc' := 85) (loc' := [(0, .ref 40960), (1, .int x1), (2, .int x2), (4, .int 15)]) (st' := []) 2 rfl ?_
    refine k_wk [0, 1, 2, 4] (loc' := [(0, .ref 40960), (1, .int x1), (2, .int x2), (4, .int 15)]) rfl rfl ?_
    exact t_d_sign_85 ht  hD
def d_sign_65 (F : Nat → Int32) (A : Nat → Nat → Int32) (J : Nat → Nat → Int64) (x1 : Int32) (x2 : Int32) (x4 : Int32) : Option (Int32 × (Nat → Int32) × (Nat → Nat → Int32) × (Nat → Nat → Int64)) :=
    cond (g_cnd .ne x2 42)
    (d_sign_75 F A J x1 x2 x4)
    (d_sign_75 F A J x1 x2 10)
theorem t_d_sign_65 (ht : ∀ k, t.1 12 k = k_ty 12 k)  {F : Nat → Int32} {A : Nat → Nat → Int32} {J : Nat → Nat → Int64} {x1 : Int32} {x2 : Int32} {x4 : Int32} {w : Int32 × (Nat → Int32) × (Nat → Nat → Int32) × (Nat → Nat → Int64)} : d_sign_65 F A J x1 x2 x4 = some w → k_run t lg (d + 1) 149 65 [(0, .ref 40960), (1, .int x1), (2, .int x2), (4, .int x4)] [] (m_h c B F A J) (some (.int w.1), m_h c B w.2.1 w.2.2.1 w.2.2.2) := by
  intro hD
  unfold d_sign_65 at hD
  refine k_runB (pc' := 68) (loc' := [(0, .ref 40960), (1, .int x1), (2, .int x2), (4, .int x4)]) (st' := [.int 42, .int x2]) 2 rfl ?_
  refine k_ic rfl (fun c68_6 => ?_) (fun c68_6 => ?_)
  · rw [c68_6, cond_true] at hD
    refine k_wk [0, 1, 2, 4] (loc' := [(0, .ref 40960), (1, .int x1), (2, .int x2), (4, .int x4)]) rfl rfl ?_
    exact t_d_sign_75 ht  hD
  · rw [c68_6, cond_false] at hD
    refine k_runB (pc' := 75) (loc' := [(0, .ref 40960), (1, .int x1), (2, .int x2), (4, .int 10)]) (st' := []) 2 rfl ?_
    refine k_wk [0, 1, 2, 4] (loc' := [(0, .ref 40960), (1, .int x1), (2, .int x2), (4, .int 10)]) rfl rfl ?_
    exact t_d_sign_75 ht  hD
def d_sign_55 (F : Nat → Int32) (A : Nat → Nat → Int32) (J : Nat → Nat → Int64) (x1 : Int32) (x2 : Int32) (x4 : Int32) : Option (Int32 × (Nat → Int32) × (Nat → Nat → Int32) × (Nat → Nat → Int64)) :=
    cond (g_cnd .ne x2 45)
    (d_sign_65 F A J x1 x2 x4)
    (d_sign_65 F A J x1 x2 9)
theorem t_d_sign_55 (ht : ∀ k, t.1 12 k = k_ty 12 k)  {F : Nat → Int32} {A : Nat → Nat → Int32} {J : Nat → Nat → Int64} {x1 : Int32} {x2 : Int32} {x4 : Int32} {w : Int32 × (Nat → Int32) × (Nat → Nat → Int32) × (Nat → Nat → Int64)} : d_sign_55 F A J x1 x2 x4 = some w → k_run t lg (d + 1) 149 55 [(0, .ref 40960), (1, .int x1), (2, .int x2), (4, .int x4)] [] (m_h c B F A J) (some (.int w.1), m_h c B w.2.1 w.2.2.1 w.2.2.2) := by
  intro hD
  unfold d_sign_55 at hD
  refine k_runB (pc' := 58) (loc' := [(0, .ref 40960), (1, .int x1), (2, .int x2), (4, .int x4)]) (st' := [.int 45, .int x2]) 2 rfl ?_
  refine k_ic rfl (fun c58_5 => ?_) (fun c58_5 => ?_)
  · rw [c58_5, cond_true] at hD
    refine k_wk [0, 1, 2, 4] (loc' := [(0, .ref 40960), (1, .int x1), (2, .int x2), (4, .int x4)]) rfl rfl ?_
    exact t_d_sign_65 ht  hD
  · rw [c58_5, cond_false] at hD
    refine k_runB (pc' := 65) (loc' := [(0, .ref 40960), (1, .int x1), (2, .int x2), (4, .int 9)]) (st' := []) 2 rfl ?_
    refine k_wk [0, 1, 2, 4] (loc' := [(0, .ref 40960), (1, .int x1), (2, .int x2), (4, .int 9)]) rfl rfl ?_
    exact t_d_sign_65 ht  hD
def d_sign_43 (F : Nat → Int32) (A : Nat → Nat → Int32) (J : Nat → Nat → Int64) (x1 : Int32) (x2 : Int32) (s0 : Int32) : Option (Int32 × (Nat → Int32) × (Nat → Nat → Int32) × (Nat → Nat → Int64)) :=
    cond (g_cnd .ne x2 43)
    (d_sign_55 F A J x1 x2 s0)
    (d_sign_55 F A J x1 x2 8)
theorem t_d_sign_43 (ht : ∀ k, t.1 12 k = k_ty 12 k)  {F : Nat → Int32} {A : Nat → Nat → Int32} {J : Nat → Nat → Int64} {x1 : Int32} {x2 : Int32} {s0 : Int32} {w : Int32 × (Nat → Int32) × (Nat → Nat → Int32) × (Nat → Nat → Int64)} : d_sign_43 F A J x1 x2 s0 = some w → k_run t lg (d + 1) 149 43 [(0, .ref 40960), (1, .int x1), (2, .int x2)] [.int s0] (m_h c B F A J) (some (.int w.1), m_h c B w.2.1 w.2.2.1 w.2.2.2) := by
  intro hD
  unfold d_sign_43 at hD
  refine k_runB (pc' := 48) (loc' := [(0, .ref 40960), (1, .int x1), (2, .int x2), (4, .int s0)]) (st' := [.int 43, .int x2]) 3 rfl ?_
  refine k_ic rfl (fun c48_4 => ?_) (fun c48_4 => ?_)
  · rw [c48_4, cond_true] at hD
    refine k_wk [0, 1, 2, 4] (loc' := [(0, .ref 40960), (1, .int x1), (2, .int x2), (4, .int s0)]) rfl rfl ?_
    exact t_d_sign_55 ht  hD
  · rw [c48_4, cond_false] at hD
    refine k_runB (pc' := 55) (loc' := [(0, .ref 40960), (1, .int x1), (2, .int x2), (4, .int 8)]) (st' := []) 2 rfl ?_
    refine k_wk [0, 1, 2, 4] (loc' := [(0, .ref 40960), (1, .int x1), (2, .int x2), (4, .int 8)]) rfl rfl ?_
    exact t_d_sign_55 ht  hD
/-- SleepWorkModel.sign(III)I -/
def d_sign (F : Nat → Int32) (A : Nat → Nat → Int32) (J : Nat → Nat → Int64) (x1 : Int32) (x2 : Int32) (x3 : Int32) : Option (Int32 × (Nat → Int32) × (Nat → Nat → Int32) × (Nat → Nat → Int64)) :=
  cond (g_cnd .ne x2 59)
  (cond (g_cnd .ne x2 61)
  (cond (g_cnd .ne x2 40)
  (cond (g_cnd .ne x2 41)
  (d_sign_43 F A J x1 x2 3)
  (d_sign_43 F A J x1 x2 7))
  (d_sign_43 F A J x1 x2 6))
  (d_sign_43 F A J x1 x2 5))
  (d_sign_43 F A J x1 x2 4)
theorem t_d_sign (ht : ∀ k, t.1 12 k = k_ty 12 k) {x1 : Int32} {x2 : Int32} {x3 : Int32} {r : Int32} {F' : Nat → Int32} {A' : Nat → Nat → Int32} {J' : Nat → Nat → Int64} : d_sign F A J x1 x2 x3 = some (r, F', A', J') → k_run t lg (d + 1) 149 0 [(0, .ref 40960), (1, .int x1), (2, .int x2), (3, .int x3)] [] (m_h c B F A J) (some (.int r), m_h c B F' A' J') := by
  intro hD
  unfold d_sign at hD
  refine k_runB (pc' := 3) (loc' := [(0, .ref 40960), (1, .int x1), (2, .int x2), (3, .int x3)]) (st' := [.int 59, .int x2]) 2 rfl ?_
  refine k_ic rfl (fun c3_0 => ?_) (fun c3_0 => ?_)
  · rw [c3_0, cond_true] at hD
    refine k_runB (pc' := 13) (loc' := [(0, .ref 40960), (1, .int x1), (2, .int x2), (3, .int x3)]) (st' := [.int 61, .int x2]) 2 rfl ?_
    refine k_ic rfl (fun c13_1 => ?_) (fun c13_1 => ?_)
    · rw [c13_1, cond_true] at hD
      refine k_runB (pc' := 23) (loc' := [(0, .ref 40960), (1, .int x1), (2, .int x2), (3, .int x3)]) (st' := [.int 40, .int x2]) 2 rfl ?_
      refine k_ic rfl (fun c23_2 => ?_) (fun c23_2 => ?_)
      · rw [c23_2, cond_true] at hD
        refine k_runB (pc' := 34) (loc' := [(0, .ref 40960), (1, .int x1), (2, .int x2), (3, .int x3)]) (st' := [.int 41, .int x2]) 2 rfl ?_
        refine k_ic rfl (fun c34_3 => ?_) (fun c34_3 => ?_)
        · rw [c34_3, cond_true] at hD
          refine k_runB (pc' := 43) (loc' := [(0, .ref 40960), (1, .int x1), (2, .int x2), (3, .int x3)]) (st' := [.int 3]) 1 rfl ?_
          refine k_wk [0, 1, 2] (loc' := [(0, .ref 40960), (1, .int x1), (2, .int x2)]) rfl rfl ?_
          exact t_d_sign_43 ht  hD
        · rw [c34_3, cond_false] at hD
          refine k_runB (pc' := 43) (loc' := [(0, .ref 40960), (1, .int x1), (2, .int x2), (3, .int x3)]) (st' := [.int 7]) 2 rfl ?_
          refine k_wk [0, 1, 2] (loc' := [(0, .ref 40960), (1, .int x1), (2, .int x2)]) rfl rfl ?_
          exact t_d_sign_43 ht  hD
      · rw [c23_2, cond_false] at hD
        refine k_runB (pc' := 43) (loc' := [(0, .ref 40960), (1, .int x1), (2, .int x2), (3, .int x3)]) (st' := [.int 6]) 2 rfl ?_
        refine k_wk [0, 1, 2] (loc' := [(0, .ref 40960), (1, .int x1), (2, .int x2)]) rfl rfl ?_
        exact t_d_sign_43 ht  hD
    · rw [c13_1, cond_false] at hD
      refine k_runB (pc' := 43) (loc' := [(0, .ref 40960), (1, .int x1), (2, .int x2), (3, .int x3)]) (st' := [.int 5]) 2 rfl ?_
      refine k_wk [0, 1, 2] (loc' := [(0, .ref 40960), (1, .int x1), (2, .int x2)]) rfl rfl ?_
      exact t_d_sign_43 ht  hD
  · rw [c3_0, cond_false] at hD
    refine k_runB (pc' := 43) (loc' := [(0, .ref 40960), (1, .int x1), (2, .int x2), (3, .int x3)]) (st' := [.int 4]) 2 rfl ?_
    refine k_wk [0, 1, 2] (loc' := [(0, .ref 40960), (1, .int x1), (2, .int x2)]) rfl rfl ?_
    exact t_d_sign_43 ht  hD
/-- SleepWorkModel.is(I)Z -/
def d_is (F : Nat → Int32) (A : Nat → Nat → Int32) (J : Nat → Nat → Int64) (x1 : Int32) : Option Int32 :=
  cond (g_cnd .ne (F 13) 0)
  (some (0))
  ((m_ld (A 3) 403 (F 11)).bind fun v2 =>
  cond (g_cnd .ne v2 x1)
  (some (0))
  (some (1)))
theorem t_d_is {x1 : Int32} {r : Int32} : d_is F A J x1 = some r → k_run t lg (d) 150 0 [(0, .ref 40960), (1, .int x1)] [] (m_h c B F A J) (some (.int r), m_h c B F A J) := by
  intro hD
  unfold d_is at hD
  refine k_runB (pc' := 4) (loc' := [(0, .ref 40960), (1, .int x1)]) (st' := [.int (F 13)]) 2 rfl ?_
  refine k_if rfl (fun c4_0 => ?_) (fun c4_0 => ?_)
  · rw [c4_0, cond_true] at hD
    refine k_runB (pc' := 25) (loc' := [(0, .ref 40960), (1, .int x1)]) (st' := [.int 0]) 1 rfl ?_
    cases hD
    exact k_zret rfl rfl (Or.inl rfl)
  · rw [c4_0, cond_false] at hD
    refine k_runB (pc' := 15) (loc' := [(0, .ref 40960), (1, .int x1)]) (st' := [.int (F 11), .ref 40963]) 4 rfl ?_
    obtain ⟨v2, hv2, hD⟩ := Option.bind_eq_some_iff.mp hD
    refine k_ldI rfl rfl hv2 ?_
    refine k_runB (pc' := 17) (loc' := [(0, .ref 40960), (1, .int x1)]) (st' := [.int x1, .int v2]) 1 rfl ?_
    refine k_ic rfl (fun c17_2 => ?_) (fun c17_2 => ?_)
    · rw [c17_2, cond_true] at hD
      refine k_runB (pc' := 25) (loc' := [(0, .ref 40960), (1, .int x1)]) (st' := [.int 0]) 1 rfl ?_
      cases hD
      exact k_zret rfl rfl (Or.inl rfl)
    · rw [c17_2, cond_false] at hD
      refine k_runB (pc' := 25) (loc' := [(0, .ref 40960), (1, .int x1)]) (st' := [.int 1]) 2 rfl ?_
      cases hD
      exact k_zret rfl rfl (Or.inr rfl)
/-- SleepWorkModel.fail(I)V -/
def d_fail (F : Nat → Int32) (A : Nat → Nat → Int32) (J : Nat → Nat → Int64) (x1 : Int32) : Option (Unit × (Nat → Int32) × (Nat → Nat → Int32) × (Nat → Nat → Int64)) :=
  cond (g_cnd .le (F 13) 0)
  ((m_pf F 13 x1).bind fun F2 =>
  (m_ld (A 4) 403 (F2 11)).bind fun v3 =>
  (m_pf F2 14 v3).bind fun F4 =>
  some ((), F4, A, J))
  (some ((), F, A, J))
theorem t_d_fail (ht : ∀ k, t.1 12 k = k_ty 12 k) {x1 : Int32} {r : Unit} {F' : Nat → Int32} {A' : Nat → Nat → Int32} {J' : Nat → Nat → Int64} : d_fail F A J x1 = some (r, F', A', J') → k_run t lg (d) 151 0 [(0, .ref 40960), (1, .int x1)] [] (m_h c B F A J) (none, m_h c B F' A' J') := by
  intro hD
  unfold d_fail at hD
  refine k_runB (pc' := 4) (loc' := [(0, .ref 40960), (1, .int x1)]) (st' := [.int (F 13)]) 2 rfl ?_
  refine k_if rfl (fun c4_0 => ?_) (fun c4_0 => ?_)
  · rw [c4_0, cond_true] at hD
    refine k_runB (pc' := 10) (loc' := [(0, .ref 40960), (1, .int x1)]) (st' := [.int x1, .ref 40960]) 2 rfl ?_
    obtain ⟨F2, hF2, hD⟩ := Option.bind_eq_some_iff.mp hD
    refine k_ptI rfl (ht 13) rfl rfl hF2 ?_
    refine k_runB (pc' := 22) (loc' := [(0, .ref 40960), (1, .int x1)]) (st' := [.int (F2 11), .ref 40964, .ref 40960]) 5 rfl ?_
    obtain ⟨v3, hv3, hD⟩ := Option.bind_eq_some_iff.mp hD
    refine k_ldI rfl rfl hv3 ?_
    obtain ⟨F4, hF4, hD⟩ := Option.bind_eq_some_iff.mp hD
    refine k_ptI rfl (ht 14) rfl rfl hF4 ?_
    cases hD
    exact k_vret rfl rfl
  · rw [c4_0, cond_false] at hD
    cases hD
    exact k_vret rfl rfl
def d_wrong_46 (F : Nat → Int32) (A : Nat → Nat → Int32) (J : Nat → Nat → Int64) (x1 : Int32) (x3 : Int32) : Option (Unit × (Nat → Int32) × (Nat → Nat → Int32) × (Nat → Nat → Int64)) :=
    (m_pf F 15 x1).bind fun F7 =>
    (m_pf F7 16 x3).bind fun F8 =>
    some ((), F8, A, J)
theorem t_d_wrong_46 (ht : ∀ k, t.1 12 k = k_ty 12 k)  {F : Nat → Int32} {A : Nat → Nat → Int32} {J : Nat → Nat → Int64} {x1 : Int32} {x3 : Int32} {w : Unit × (Nat → Int32) × (Nat → Nat → Int32) × (Nat → Nat → Int64)} : d_wrong_46 F A J x1 x3 = some w → k_run t lg (d) 152 46 [(0, .ref 40960), (1, .int x1), (3, .int x3)] [] (m_h c B F A J) (none, m_h c B w.2.1 w.2.2.1 w.2.2.2) := by
  intro hD
  unfold d_wrong_46 at hD
  refine k_runB (pc' := 48) (loc' := [(0, .ref 40960), (1, .int x1), (3, .int x3)]) (st' := [.int x1, .ref 40960]) 2 rfl ?_
  obtain ⟨F7, hF7, hD⟩ := Option.bind_eq_some_iff.mp hD
  refine k_ptI rfl (ht 15) rfl rfl hF7 ?_
  refine k_runB (pc' := 53) (loc' := [(0, .ref 40960), (1, .int x1), (3, .int x3)]) (st' := [.int x3, .ref 40960]) 2 rfl ?_
  obtain ⟨F8, hF8, hD⟩ := Option.bind_eq_some_iff.mp hD
  refine k_ptI rfl (ht 16) rfl rfl hF8 ?_
  cases hD
  exact k_vret rfl rfl
/-- SleepWorkModel.wrong(II)V -/
def d_wrong (F : Nat → Int32) (A : Nat → Nat → Int32) (J : Nat → Nat → Int64) (x1 : Int32) (x2 : Int32) : Option (Unit × (Nat → Int32) × (Nat → Nat → Int32) × (Nat → Nat → Int64)) :=
  (m_ld (A 4) 403 x2).bind fun v1 =>
  cond (g_cnd .gt (F 13) 0)
  (some ((), F, A, J))
  (cond (g_cnd .eq (F 15) 0)
  (d_wrong_46 F A J x1 v1)
  (cond (g_cnd .gt v1 (F 16))
  (some ((), F, A, J))
  (cond (g_cnd .ne v1 (F 16))
  (d_wrong_46 F A J x1 v1)
  (cond (g_cnd .lt x1 (F 15))
  (d_wrong_46 F A J x1 v1)
  (some ((), F, A, J))))))
theorem t_d_wrong (ht : ∀ k, t.1 12 k = k_ty 12 k) {x1 : Int32} {x2 : Int32} {r : Unit} {F' : Nat → Int32} {A' : Nat → Nat → Int32} {J' : Nat → Nat → Int64} : d_wrong F A J x1 x2 = some (r, F', A', J') → k_run t lg (d) 152 0 [(0, .ref 40960), (1, .int x1), (2, .int x2)] [] (m_h c B F A J) (none, m_h c B F' A' J') := by
  intro hD
  unfold d_wrong at hD
  refine k_runB (pc' := 5) (loc' := [(0, .ref 40960), (1, .int x1), (2, .int x2)]) (st' := [.int x2, .ref 40964]) 3 rfl ?_
  obtain ⟨v1, hv1, hD⟩ := Option.bind_eq_some_iff.mp hD
  refine k_ldI rfl rfl hv1 ?_
  refine k_runB (pc' := 11) (loc' := [(0, .ref 40960), (1, .int x1), (2, .int x2), (3, .int v1)]) (st' := [.int (F 13)]) 3 rfl ?_
  refine k_if rfl (fun c11_1 => ?_) (fun c11_1 => ?_)
  · rw [c11_1, cond_true] at hD
    cases hD
    exact k_vret rfl rfl
  · rw [c11_1, cond_false] at hD
    refine k_runB (pc' := 18) (loc' := [(0, .ref 40960), (1, .int x1), (2, .int x2), (3, .int v1)]) (st' := [.int (F 15)]) 2 rfl ?_
    refine k_if rfl (fun c18_2 => ?_) (fun c18_2 => ?_)
    · rw [c18_2, cond_true] at hD
      refine k_wk [0, 1, 3] (loc' := [(0, .ref 40960), (1, .int x1), (3, .int v1)]) rfl rfl ?_
      exact t_d_wrong_46 ht  hD
    · rw [c18_2, cond_false] at hD
      refine k_runB (pc' := 26) (loc' := [(0, .ref 40960), (1, .int x1), (2, .int x2), (3, .int v1)]) (st' := [.int (F 16), .int v1]) 3 rfl ?_
      refine k_ic rfl (fun c26_3 => ?_) (fun c26_3 => ?_)
      · rw [c26_3, cond_true] at hD
        cases hD
        exact k_vret rfl rfl
      · rw [c26_3, cond_false] at hD
        refine k_runB (pc' := 34) (loc' := [(0, .ref 40960), (1, .int x1), (2, .int x2), (3, .int v1)]) (st' := [.int (F 16), .int v1]) 3 rfl ?_
        refine k_ic rfl (fun c34_4 => ?_) (fun c34_4 => ?_)
        · rw [c34_4, cond_true] at hD
          refine k_wk [0, 1, 3] (loc' := [(0, .ref 40960), (1, .int x1), (3, .int v1)]) rfl rfl ?_
          exact t_d_wrong_46 ht  hD
        · rw [c34_4, cond_false] at hD
          refine k_runB (pc' := 42) (loc' := [(0, .ref 40960), (1, .int x1), (2, .int x2), (3, .int v1)]) (st' := [.int (F 15), .int x1]) 3 rfl ?_
          refine k_ic rfl (fun c42_5 => ?_) (fun c42_5 => ?_)
          · rw [c42_5, cond_true] at hD
            refine k_wk [0, 1, 3] (loc' := [(0, .ref 40960), (1, .int x1), (3, .int v1)]) rfl rfl ?_
            exact t_d_wrong_46 ht  hD
          · rw [c42_5, cond_false] at hD
            cases hD
            exact k_vret rfl rfl
/-- SleepWorkModel.goesOn()V -/
def d_goesOn (F : Nat → Int32) (A : Nat → Nat → Int32) (J : Nat → Nat → Int64) : Option (Unit × (Nat → Int32) × (Nat → Nat → Int32) × (Nat → Nat → Int64)) :=
  cond (g_cnd .ne (F 11) 400)
  ((m_pf F 11 ((F 11) + 1)).bind fun F2 =>
  some ((), F2, A, J))
  ((d_fail F A J 2).bind fun (_, F4, A5, J6) =>
  some ((), F4, A5, J6))
theorem t_d_goesOn (ht : ∀ k, t.1 12 k = k_ty 12 k) {r : Unit} {F' : Nat → Int32} {A' : Nat → Nat → Int32} {J' : Nat → Nat → Int64} : d_goesOn F A J = some (r, F', A', J') → k_run t lg (d + 1) 153 0 [(0, .ref 40960)] [] (m_h c B F A J) (none, m_h c B F' A' J') := by
  intro hD
  unfold d_goesOn at hD
  refine k_runB (pc' := 7) (loc' := [(0, .ref 40960)]) (st' := [.int 400, .int (F 11)]) 3 rfl ?_
  refine k_ic rfl (fun c7_0 => ?_) (fun c7_0 => ?_)
  · rw [c7_0, cond_true] at hD
    refine k_runB (pc' := 25) (loc' := [(0, .ref 40960)]) (st' := [.int ((F 11) + 1), .ref 40960]) 5 rfl ?_
    obtain ⟨F2, hF2, hD⟩ := Option.bind_eq_some_iff.mp hD
    refine k_ptI rfl (ht 11) rfl rfl hF2 ?_
    cases hD
    exact k_vret rfl rfl
  · rw [c7_0, cond_false] at hD
    refine k_runB (pc' := 12) (loc' := [(0, .ref 40960)]) (st' := [.int 2, .ref 40960]) 2 rfl ?_
    obtain ⟨⟨v3, F4, A5, J6⟩, hv3, hD⟩ := Option.bind_eq_some_iff.mp hD
    dsimp only at hD
    refine k_runC rfl rfl rfl rfl (t_d_fail (d := d) ht hv3) ?_
    refine k_runB (pc' := 28) (loc' := [(0, .ref 40960)]) (st' := []) 1 rfl ?_
    cases hD
    exact k_vret rfl rfl
/-- SleepWorkModel.must(I)V -/
def d_must (F : Nat → Int32) (A : Nat → Nat → Int32) (J : Nat → Nat → Int64) (x1 : Int32) : Option (Unit × (Nat → Int32) × (Nat → Nat → Int32) × (Nat → Nat → Int64)) :=
  (d_is F A J x1).bind fun v1 =>
  cond (g_cnd .eq v1 0)
  ((d_fail F A J 1).bind fun (_, F4, A5, J6) =>
  some ((), F4, A5, J6))
  ((d_goesOn F A J).bind fun (_, F8, A9, J10) =>
  some ((), F8, A9, J10))
theorem t_d_must (ht : ∀ k, t.1 12 k = k_ty 12 k) {x1 : Int32} {r : Unit} {F' : Nat → Int32} {A' : Nat → Nat → Int32} {J' : Nat → Nat → Int64} : d_must F A J x1 = some (r, F', A', J') → k_run t lg (d + 2) 154 0 [(0, .ref 40960), (1, .int x1)] [] (m_h c B F A J) (none, m_h c B F' A' J') := by
  intro hD
  unfold d_must at hD
  refine k_runB (pc' := 2) (loc' := [(0, .ref 40960), (1, .int x1)]) (st' := [.int x1, .ref 40960]) 2 rfl ?_
  obtain ⟨v1, hv1, hD⟩ := Option.bind_eq_some_iff.mp hD
  refine k_runC rfl rfl rfl rfl (t_d_is (d := d + 1) hv1) ?_
  refine k_if rfl (fun c5_1 => ?_) (fun c5_1 => ?_)
  · rw [c5_1, cond_true] at hD
    refine k_runB (pc' := 17) (loc' := [(0, .ref 40960), (1, .int x1)]) (st' := [.int 1, .ref 40960]) 2 rfl ?_
    obtain ⟨⟨v3, F4, A5, J6⟩, hv3, hD⟩ := Option.bind_eq_some_iff.mp hD
    dsimp only at hD
    refine k_runC rfl rfl rfl rfl (t_d_fail (d := d + 1) ht hv3) ?_
    cases hD
    exact k_vret rfl rfl
  · rw [c5_1, cond_false] at hD
    refine k_runB (pc' := 9) (loc' := [(0, .ref 40960), (1, .int x1)]) (st' := [.ref 40960]) 1 rfl ?_
    obtain ⟨⟨v7, F8, A9, J10⟩, hv7, hD⟩ := Option.bind_eq_some_iff.mp hD
    dsimp only at hD
    refine k_runC rfl rfl rfl rfl (t_d_goesOn (d := d) ht hv7) ?_
    refine k_runB (pc' := 20) (loc' := [(0, .ref 40960), (1, .int x1)]) (st' := []) 1 rfl ?_
    cases hD
    exact k_vret rfl rfl
/-- SleepWorkModel.place()I -/
def d_place (F : Nat → Int32) (A : Nat → Nat → Int32) (J : Nat → Nat → Int64) : Option Int32 :=
  some (F 17)
theorem t_d_place {r : Int32} : d_place F A J = some r → k_run t lg (d) 156 0 [(0, .ref 40960)] [] (m_h c B F A J) (some (.int r), m_h c B F A J) := by
  intro hD
  unfold d_place at hD
  refine k_runB (pc' := 4) (loc' := [(0, .ref 40960)]) (st' := [.int (F 17)]) 2 rfl ?_
  cases hD
  exact k_iret rfl rfl
/-- SleepWorkModel.failAt(II)V -/
def d_failAt (F : Nat → Int32) (A : Nat → Nat → Int32) (J : Nat → Nat → Int64) (x1 : Int32) (x2 : Int32) : Option (Unit × (Nat → Int32) × (Nat → Nat → Int32) × (Nat → Nat → Int64)) :=
  cond (g_cnd .le (F 13) 0)
  ((m_pf F 13 x1).bind fun F2 =>
  (m_ld (A 4) 403 x2).bind fun v3 =>
  (m_pf F2 14 v3).bind fun F4 =>
  some ((), F4, A, J))
  (some ((), F, A, J))
theorem t_d_failAt (ht : ∀ k, t.1 12 k = k_ty 12 k) {x1 : Int32} {x2 : Int32} {r : Unit} {F' : Nat → Int32} {A' : Nat → Nat → Int32} {J' : Nat → Nat → Int64} : d_failAt F A J x1 x2 = some (r, F', A', J') → k_run t lg (d) 157 0 [(0, .ref 40960), (1, .int x1), (2, .int x2)] [] (m_h c B F A J) (none, m_h c B F' A' J') := by
  intro hD
  unfold d_failAt at hD
  refine k_runB (pc' := 4) (loc' := [(0, .ref 40960), (1, .int x1), (2, .int x2)]) (st' := [.int (F 13)]) 2 rfl ?_
  refine k_if rfl (fun c4_0 => ?_) (fun c4_0 => ?_)
  · rw [c4_0, cond_true] at hD
    refine k_runB (pc' := 10) (loc' := [(0, .ref 40960), (1, .int x1), (2, .int x2)]) (st' := [.int x1, .ref 40960]) 2 rfl ?_
    obtain ⟨F2, hF2, hD⟩ := Option.bind_eq_some_iff.mp hD
    refine k_ptI rfl (ht 13) rfl rfl hF2 ?_
    refine k_runB (pc' := 19) (loc' := [(0, .ref 40960), (1, .int x1), (2, .int x2)]) (st' := [.int x2, .ref 40964, .ref 40960]) 4 rfl ?_
    obtain ⟨v3, hv3, hD⟩ := Option.bind_eq_some_iff.mp hD
    refine k_ldI rfl rfl hv3 ?_
    obtain ⟨F4, hF4, hD⟩ := Option.bind_eq_some_iff.mp hD
    refine k_ptI rfl (ht 14) rfl rfl hF4 ?_
    cases hD
    exact k_vret rfl rfl
  · rw [c4_0, cond_false] at hD
    cases hD
    exact k_vret rfl rfl
def d_roomFor_10 (F : Nat → Int32) (A : Nat → Nat → Int32) (J : Nat → Nat → Int64) : Option (Unit × (Nat → Int32) × (Nat → Nat → Int32) × (Nat → Nat → Int64)) :=
    cond (g_cnd .ne (F 13) 0)
    (some ((), F, A, J))
    ((d_goesOn F A J).bind fun (_, F13, A14, J15) =>
    some ((), F13, A14, J15))
theorem t_d_roomFor_10 (ht : ∀ k, t.1 12 k = k_ty 12 k)  {F : Nat → Int32} {A : Nat → Nat → Int32} {J : Nat → Nat → Int64}  {w : Unit × (Nat → Int32) × (Nat → Nat → Int32) × (Nat → Nat → Int64)} : d_roomFor_10 F A J = some w → k_run t lg (d + 2) 158 10 [(0, .ref 40960)] [] (m_h c B F A J) (none, m_h c B w.2.1 w.2.2.1 w.2.2.2) := by
  intro hD
  unfold d_roomFor_10 at hD
  refine k_runB (pc' := 14) (loc' := [(0, .ref 40960)]) (st' := [.int (F 13)]) 2 rfl ?_
  refine k_if rfl (fun c14_10 => ?_) (fun c14_10 => ?_)
  · rw [c14_10, cond_true] at hD
    cases hD
    exact k_vret rfl rfl
  · rw [c14_10, cond_false] at hD
    refine k_runB (pc' := 18) (loc' := [(0, .ref 40960)]) (st' := [.ref 40960]) 1 rfl ?_
    obtain ⟨⟨v12, F13, A14, J15⟩, hv12, hD⟩ := Option.bind_eq_some_iff.mp hD
    dsimp only at hD
    refine k_runC rfl rfl rfl rfl (t_d_goesOn (d := d) ht hv12) ?_
    cases hD
    exact k_vret rfl rfl
/-- SleepWorkModel.roomFor(II)V -/
def d_roomFor (F : Nat → Int32) (A : Nat → Nat → Int32) (J : Nat → Nat → Int64) (x1 : Int32) (x2 : Int32) : Option (Unit × (Nat → Int32) × (Nat → Nat → Int32) × (Nat → Nat → Int64)) :=
  cond (g_cnd .ne x1 x2)
  (d_roomFor_10 F A J)
  ((d_fail F A J 2).bind fun (_, F3, A4, J5) =>
  cond (g_cnd .ne (F3 13) 0)
  (some ((), F3, A4, J5))
  ((d_goesOn F3 A4 J5).bind fun (_, F8, A9, J10) =>
  some ((), F8, A9, J10)))
theorem t_d_roomFor (ht : ∀ k, t.1 12 k = k_ty 12 k) {x1 : Int32} {x2 : Int32} {r : Unit} {F' : Nat → Int32} {A' : Nat → Nat → Int32} {J' : Nat → Nat → Int64} : d_roomFor F A J x1 x2 = some (r, F', A', J') → k_run t lg (d + 2) 158 0 [(0, .ref 40960), (1, .int x1), (2, .int x2)] [] (m_h c B F A J) (none, m_h c B F' A' J') := by
  intro hD
  unfold d_roomFor at hD
  refine k_runB (pc' := 2) (loc' := [(0, .ref 40960), (1, .int x1), (2, .int x2)]) (st' := [.int x2, .int x1]) 2 rfl ?_
  refine k_ic rfl (fun c2_0 => ?_) (fun c2_0 => ?_)
  · rw [c2_0, cond_true] at hD
    refine k_wk [0] (loc' := [(0, .ref 40960)]) rfl rfl ?_
    exact t_d_roomFor_10 ht  hD
  · rw [c2_0, cond_false] at hD
    refine k_runB (pc' := 7) (loc' := [(0, .ref 40960), (1, .int x1), (2, .int x2)]) (st' := [.int 2, .ref 40960]) 2 rfl ?_
    obtain ⟨⟨v2, F3, A4, J5⟩, hv2, hD⟩ := Option.bind_eq_some_iff.mp hD
    dsimp only at hD
    refine k_runC rfl rfl rfl rfl (t_d_fail (d := d + 1) ht hv2) ?_
    refine k_runB (pc' := 14) (loc' := [(0, .ref 40960), (1, .int x1), (2, .int x2)]) (st' := [.int (F3 13)]) 2 rfl ?_
    refine k_if rfl (fun c14_5 => ?_) (fun c14_5 => ?_)
    · rw [c14_5, cond_true] at hD
      cases hD
      exact k_vret rfl rfl
    · rw [c14_5, cond_false] at hD
      refine k_runB (pc' := 18) (loc' := [(0, .ref 40960), (1, .int x1), (2, .int x2)]) (st' := [.ref 40960]) 1 rfl ?_
      obtain ⟨⟨v7, F8, A9, J10⟩, hv7, hD⟩ := Option.bind_eq_some_iff.mp hD
      dsimp only at hD
      refine k_runC rfl rfl rfl rfl (t_d_goesOn (d := d) ht hv7) ?_
      cases hD
      exact k_vret rfl rfl
def d_named_49 (K12 : (Nat → Int32) → (Nat → Nat → Int32) → (Nat → Nat → Int64) → Int32 → Int32 → Option (Int32 × (Nat → Int32) × (Nat → Nat → Int32) × (Nat → Nat → Int64))) (n : Nat) (F : Nat → Int32) (A : Nat → Nat → Int32) (J : Nat → Nat → Int64) (x1 : Int32) (x2 : Int32) : Option (Int32 × (Nat → Int32) × (Nat → Nat → Int32) × (Nat → Nat → Int64)) :=
    K12 F A J x1 (x2 + 1)
theorem t_d_named_49 (ht : ∀ k, t.1 12 k = k_ty 12 k) {n : Nat} {K12 : (Nat → Int32) → (Nat → Nat → Int32) → (Nat → Nat → Int64) → Int32 → Int32 → Option (Int32 × (Nat → Int32) × (Nat → Nat → Int32) × (Nat → Nat → Int64))} (hK12 : ∀ (F : Nat → Int32) (A : Nat → Nat → Int32) (J : Nat → Nat → Int64) (x1 : Int32) (x2 : Int32) (w : Int32 × (Nat → Int32) × (Nat → Nat → Int32) × (Nat → Nat → Int64)), K12 F A J x1 x2 = some w → k_run t lg (d + 3) 160 12 [(0, .ref 40960), (1, .int x1), (2, .int x2)] [] (m_h c B F A J) (some (.int w.1), m_h c B w.2.1 w.2.2.1 w.2.2.2)) {F : Nat → Int32} {A : Nat → Nat → Int32} {J : Nat → Nat → Int64} {x1 : Int32} {x2 : Int32} {w : Int32 × (Nat → Int32) × (Nat → Nat → Int32) × (Nat → Nat → Int64)} : d_named_49 K12 n F A J x1 x2 = some w → k_run t lg (d + 3) 160 49 [(0, .ref 40960), (1, .int x1), (2, .int x2)] [] (m_h c B F A J) (some (.int w.1), m_h c B w.2.1 w.2.2.1 w.2.2.2) := by
  intro hD
  unfold d_named_49 at hD
  refine k_runB (pc' := 12) (loc' := [(0, .ref 40960), (1, .int x1), (2, .int (x2 + 1))]) (st' := []) 2 rfl ?_
  refine k_wk [0, 1, 2] (loc' := [(0, .ref 40960), (1, .int x1), (2, .int (x2 + 1))]) rfl rfl ?_
  exact hK12 _ _ _ _ _ _ hD
def d_named_12 : Nat → (Nat → Int32) → (Nat → Nat → Int32) → (Nat → Nat → Int64) → Int32 → Int32 → Option (Int32 × (Nat → Int32) × (Nat → Nat → Int32) × (Nat → Nat → Int64))
  | 0, _, _, _, _, _ => none
  | n + 1, F, A, J, x1, x2 => cond (g_cnd .ge x2 (F 20))
    (some (x1, F, A, J))
    (cond (g_cnd .ne (F 13) 0)
    (some (x1, F, A, J))
    ((m_ldJ (J 8) 32 x2).bind fun v7 =>
    (m_ldJ (J 6) 403 x1).bind fun v8 =>
    cond (g_cnd .ne (lg_cmp v7 v8) 0)
    (d_named_49 (d_named_12 n) n F A J x1 x2)
    ((d_wrong F A J 3 x1).bind fun (_, F11, A12, J13) =>
    (d_named_12 n) F11 A12 J13 x1 (x2 + 1))))
theorem t_d_named_12 (ht : ∀ k, t.1 12 k = k_ty 12 k) {n : Nat}  {F : Nat → Int32} {A : Nat → Nat → Int32} {J : Nat → Nat → Int64} {x1 : Int32} {x2 : Int32} {w : Int32 × (Nat → Int32) × (Nat → Nat → Int32) × (Nat → Nat → Int64)} : d_named_12 n F A J x1 x2 = some w → k_run t lg (d + 3) 160 12 [(0, .ref 40960), (1, .int x1), (2, .int x2)] [] (m_h c B F A J) (some (.int w.1), m_h c B w.2.1 w.2.2.1 w.2.2.2) := by
  induction n generalizing F A J x1 x2 w with
  | zero => intro hD; cases hD
  | succ n ih =>
    intro hD
    have hK12 : ∀ (F : Nat → Int32) (A : Nat → Nat → Int32) (J : Nat → Nat → Int64) (x1 : Int32) (x2 : Int32) (w : Int32 × (Nat → Int32) × (Nat → Nat → Int32) × (Nat → Nat → Int64)), d_named_12 n F A J x1 x2 = some w → k_run t lg (d + 3) 160 12 [(0, .ref 40960), (1, .int x1), (2, .int x2)] [] (m_h c B F A J) (some (.int w.1), m_h c B w.2.1 w.2.2.1 w.2.2.2) := fun _ _ _ _ _ _ h => ih h
    unfold d_named_12 at hD
    refine k_runB (pc' := 17) (loc' := [(0, .ref 40960), (1, .int x1), (2, .int x2)]) (st' := [.int (F 20), .int x2]) 3 rfl ?_
    refine k_ic rfl (fun c17_4 => ?_) (fun c17_4 => ?_)
    · rw [c17_4, cond_true] at hD
      refine k_runB (pc' := 56) (loc' := [(0, .ref 40960), (1, .int x1), (2, .int x2)]) (st' := [.int x1]) 1 rfl ?_
      cases hD
      exact k_iret rfl rfl
    · rw [c17_4, cond_false] at hD
      refine k_runB (pc' := 24) (loc' := [(0, .ref 40960), (1, .int x1), (2, .int x2)]) (st' := [.int (F 13)]) 2 rfl ?_
      refine k_if rfl (fun c24_5 => ?_) (fun c24_5 => ?_)
      · rw [c24_5, cond_true] at hD
        refine k_runB (pc' := 56) (loc' := [(0, .ref 40960), (1, .int x1), (2, .int x2)]) (st' := [.int x1]) 1 rfl ?_
        cases hD
        exact k_iret rfl rfl
      · rw [c24_5, cond_false] at hD
        refine k_runB (pc' := 32) (loc' := [(0, .ref 40960), (1, .int x1), (2, .int x2)]) (st' := [.int x2, .ref 40968]) 3 rfl ?_
        obtain ⟨v7, hv7, hD⟩ := Option.bind_eq_some_iff.mp hD
        refine k_ldL rfl rfl hv7 ?_
        refine k_runB (pc' := 38) (loc' := [(0, .ref 40960), (1, .int x1), (2, .int x2)]) (st' := [.int x1, .ref 40966, .long (v7)]) 3 rfl ?_
        obtain ⟨v8, hv8, hD⟩ := Option.bind_eq_some_iff.mp hD
        refine k_ldL rfl rfl hv8 ?_
        refine k_runB (pc' := 40) (loc' := [(0, .ref 40960), (1, .int x1), (2, .int x2)]) (st' := [.int (lg_cmp v7 v8)]) 1 rfl ?_
        refine k_if rfl (fun c40_8 => ?_) (fun c40_8 => ?_)
        · rw [c40_8, cond_true] at hD
          refine k_wk [0, 1, 2] (loc' := [(0, .ref 40960), (1, .int x1), (2, .int x2)]) rfl rfl ?_
          exact t_d_named_49 ht hK12 hD
        · rw [c40_8, cond_false] at hD
          refine k_runB (pc' := 46) (loc' := [(0, .ref 40960), (1, .int x1), (2, .int x2)]) (st' := [.int x1, .int 3, .ref 40960]) 3 rfl ?_
          obtain ⟨⟨v10, F11, A12, J13⟩, hv10, hD⟩ := Option.bind_eq_some_iff.mp hD
          dsimp only at hD
          refine k_runC rfl rfl rfl rfl (t_d_wrong (d := d + 2) ht hv10) ?_
          refine k_runB (pc' := 12) (loc' := [(0, .ref 40960), (1, .int x1), (2, .int (x2 + 1))]) (st' := []) 2 rfl ?_
          refine k_wk [0, 1, 2] (loc' := [(0, .ref 40960), (1, .int x1), (2, .int (x2 + 1))]) rfl rfl ?_
          exact hK12 _ _ _ _ _ _ hD
/-- SleepWorkModel.named()I -/
def d_named (n : Nat) (F : Nat → Int32) (A : Nat → Nat → Int32) (J : Nat → Nat → Int64) : Option (Int32 × (Nat → Int32) × (Nat → Nat → Int32) × (Nat → Nat → Int64)) :=
  (d_must F A J 1).bind fun (_, F2, A3, J4) =>
  d_named_12 n F2 A3 J4 (F 11) 0
theorem t_d_named (ht : ∀ k, t.1 12 k = k_ty 12 k) {n : Nat} {r : Int32} {F' : Nat → Int32} {A' : Nat → Nat → Int32} {J' : Nat → Nat → Int64} : d_named n F A J = some (r, F', A', J') → k_run t lg (d + 3) 160 0 [(0, .ref 40960)] [] (m_h c B F A J) (some (.int r), m_h c B F' A' J') := by
  intro hD
  unfold d_named at hD
  refine k_runB (pc' := 7) (loc' := [(0, .ref 40960), (1, .int (F 11))]) (st' := [.int 1, .ref 40960]) 5 rfl ?_
  obtain ⟨⟨v1, F2, A3, J4⟩, hv1, hD⟩ := Option.bind_eq_some_iff.mp hD
  dsimp only at hD
  refine k_runC rfl rfl rfl rfl (t_d_must (d := d) ht hv1) ?_
  refine k_runB (pc' := 12) (loc' := [(0, .ref 40960), (1, .int (F 11)), (2, .int 0)]) (st' := []) 2 rfl ?_
  refine k_wk [0, 1, 2] (loc' := [(0, .ref 40960), (1, .int (F 11)), (2, .int 0)]) rfl rfl ?_
  exact t_d_named_12 ht  hD
/-- SleepWorkModel.notes(III)V -/
def d_notes (F : Nat → Int32) (A : Nat → Nat → Int32) (J : Nat → Nat → Int64) (x1 : Int32) (x2 : Int32) (x3 : Int32) : Option (Unit × (Nat → Int32) × (Nat → Nat → Int32) × (Nat → Nat → Int64)) :=
  (m_ldJ (J 6) 403 x1).bind fun v1 =>
  (m_stJ J 8 32 (F 20) v1).bind fun J2 =>
  (m_st A 9 32 (F 20) x2).bind fun A3 =>
  (m_st A3 10 32 (F 20) x3).bind fun A4 =>
  (m_pf F 20 ((F 20) + 1)).bind fun F5 =>
  some ((), F5, A4, J2)
theorem t_d_notes (ht : ∀ k, t.1 12 k = k_ty 12 k) {x1 : Int32} {x2 : Int32} {x3 : Int32} {r : Unit} {F' : Nat → Int32} {A' : Nat → Nat → Int32} {J' : Nat → Nat → Int64} : d_notes F A J x1 x2 x3 = some (r, F', A', J') → k_run t lg (d) 161 0 [(0, .ref 40960), (1, .int x1), (2, .int x2), (3, .int x3)] [] (m_h c B F A J) (none, m_h c B F' A' J') := by
  intro hD
  unfold d_notes at hD
  refine k_runB (pc' := 13) (loc' := [(0, .ref 40960), (1, .int x1), (2, .int x2), (3, .int x3)]) (st' := [.int x1, .ref 40966, .int (F 20), .ref 40968]) 7 rfl ?_
  obtain ⟨v1, hv1, hD⟩ := Option.bind_eq_some_iff.mp hD
  refine k_ldL rfl rfl hv1 ?_
  obtain ⟨J2, hJ2, hD⟩ := Option.bind_eq_some_iff.mp hD
  refine k_stL 8 rfl rfl (fun _ => rfl) hJ2 ?_
  refine k_runB (pc' := 24) (loc' := [(0, .ref 40960), (1, .int x1), (2, .int x2), (3, .int x3)]) (st' := [.int x2, .int (F 20), .ref 40969]) 5 rfl ?_
  obtain ⟨A3, hA3, hD⟩ := Option.bind_eq_some_iff.mp hD
  refine k_stI 9 rfl rfl (fun _ => rfl) hA3 ?_
  refine k_runB (pc' := 34) (loc' := [(0, .ref 40960), (1, .int x1), (2, .int x2), (3, .int x3)]) (st' := [.int x3, .int (F 20), .ref 40970]) 5 rfl ?_
  obtain ⟨A4, hA4, hD⟩ := Option.bind_eq_some_iff.mp hD
  refine k_stI 10 rfl rfl (fun _ => rfl) hA4 ?_
  refine k_runB (pc' := 42) (loc' := [(0, .ref 40960), (1, .int x1), (2, .int x2), (3, .int x3)]) (st' := [.int ((F 20) + 1), .ref 40960]) 5 rfl ?_
  obtain ⟨F5, hF5, hD⟩ := Option.bind_eq_some_iff.mp hD
  refine k_ptI rfl (ht 20) rfl rfl hF5 ?_
  cases hD
  exact k_vret rfl rfl
def d_known_62 (K21 : (Nat → Int32) → (Nat → Nat → Int32) → (Nat → Nat → Int64) → Int32 → Int32 → Int32 → Option (Int32 × (Nat → Int32) × (Nat → Nat → Int32) × (Nat → Nat → Int64))) (n : Nat) (F : Nat → Int32) (A : Nat → Nat → Int32) (J : Nat → Nat → Int64) (x1 : Int32) (x2 : Int32) (x3 : Int32) : Option (Int32 × (Nat → Int32) × (Nat → Nat → Int32) × (Nat → Nat → Int64)) :=
    K21 F A J x1 x2 (x3 + 1)
theorem t_d_known_62 (ht : ∀ k, t.1 12 k = k_ty 12 k) {n : Nat} {K21 : (Nat → Int32) → (Nat → Nat → Int32) → (Nat → Nat → Int64) → Int32 → Int32 → Int32 → Option (Int32 × (Nat → Int32) × (Nat → Nat → Int32) × (Nat → Nat → Int64))} (hK21 : ∀ (F : Nat → Int32) (A : Nat → Nat → Int32) (J : Nat → Nat → Int64) (x1 : Int32) (x2 : Int32) (x3 : Int32) (w : Int32 × (Nat → Int32) × (Nat → Nat → Int32) × (Nat → Nat → Int64)), K21 F A J x1 x2 x3 = some w → k_run t lg (d + 3) 162 21 [(0, .ref 40960), (1, .int x1), (2, .int x2), (3, .int x3)] [] (m_h c B F A J) (some (.int w.1), m_h c B w.2.1 w.2.2.1 w.2.2.2)) {F : Nat → Int32} {A : Nat → Nat → Int32} {J : Nat → Nat → Int64} {x1 : Int32} {x2 : Int32} {x3 : Int32} {w : Int32 × (Nat → Int32) × (Nat → Nat → Int32) × (Nat → Nat → Int64)} : d_known_62 K21 n F A J x1 x2 x3 = some w → k_run t lg (d + 3) 162 62 [(0, .ref 40960), (1, .int x1), (2, .int x2), (3, .int x3)] [] (m_h c B F A J) (some (.int w.1), m_h c B w.2.1 w.2.2.1 w.2.2.2) := by
  intro hD
  unfold d_known_62 at hD
  refine k_runB (pc' := 21) (loc' := [(0, .ref 40960), (1, .int x1), (2, .int x2), (3, .int (x3 + 1))]) (st' := []) 2 rfl ?_
  refine k_wk [0, 1, 2, 3] (loc' := [(0, .ref 40960), (1, .int x1), (2, .int x2), (3, .int (x3 + 1))]) rfl rfl ?_
  exact hK21 _ _ _ _ _ _ _ hD
def d_known_21 : Nat → (Nat → Int32) → (Nat → Nat → Int32) → (Nat → Nat → Int64) → Int32 → Int32 → Int32 → Option (Int32 × (Nat → Int32) × (Nat → Nat → Int32) × (Nat → Nat → Int64))
  | 0, _, _, _, _, _, _ => none
  | n + 1, F, A, J, x1, x2, x3 => cond (g_cnd .ge x3 (F 20))
    ((d_wrong F A J 4 x2).bind fun (_, F8, A9, J10) =>
    some ((-1), F8, A9, J10))
    ((m_ldJ (J 8) 32 x3).bind fun v11 =>
    (m_ldJ (J 6) 403 x2).bind fun v12 =>
    cond (g_cnd .ne (lg_cmp v11 v12) 0)
    (d_known_62 (d_known_21 n) n F A J x1 x2 x3)
    ((m_ld (A 9) 32 x3).bind fun v14 =>
    cond (g_cnd .ne v14 x1)
    (d_known_62 (d_known_21 n) n F A J x1 x2 x3)
    ((m_ld (A 10) 32 x3).bind fun v16 =>
    some (v16, F, A, J))))
theorem t_d_known_21 (ht : ∀ k, t.1 12 k = k_ty 12 k) {n : Nat}  {F : Nat → Int32} {A : Nat → Nat → Int32} {J : Nat → Nat → Int64} {x1 : Int32} {x2 : Int32} {x3 : Int32} {w : Int32 × (Nat → Int32) × (Nat → Nat → Int32) × (Nat → Nat → Int64)} : d_known_21 n F A J x1 x2 x3 = some w → k_run t lg (d + 3) 162 21 [(0, .ref 40960), (1, .int x1), (2, .int x2), (3, .int x3)] [] (m_h c B F A J) (some (.int w.1), m_h c B w.2.1 w.2.2.1 w.2.2.2) := by
  induction n generalizing F A J x1 x2 x3 w with
  | zero => intro hD; cases hD
  | succ n ih =>
    intro hD
    have hK21 : ∀ (F : Nat → Int32) (A : Nat → Nat → Int32) (J : Nat → Nat → Int64) (x1 : Int32) (x2 : Int32) (x3 : Int32) (w : Int32 × (Nat → Int32) × (Nat → Nat → Int32) × (Nat → Nat → Int64)), d_known_21 n F A J x1 x2 x3 = some w → k_run t lg (d + 3) 162 21 [(0, .ref 40960), (1, .int x1), (2, .int x2), (3, .int x3)] [] (m_h c B F A J) (some (.int w.1), m_h c B w.2.1 w.2.2.1 w.2.2.2) := fun _ _ _ _ _ _ _ h => ih h
    unfold d_known_21 at hD
    refine k_runB (pc' := 26) (loc' := [(0, .ref 40960), (1, .int x1), (2, .int x2), (3, .int x3)]) (st' := [.int (F 20), .int x3]) 3 rfl ?_
    refine k_ic rfl (fun c26_5 => ?_) (fun c26_5 => ?_)
    · rw [c26_5, cond_true] at hD
      refine k_runB (pc' := 71) (loc' := [(0, .ref 40960), (1, .int x1), (2, .int x2), (3, .int x3)]) (st' := [.int x2, .int 4, .ref 40960]) 3 rfl ?_
      obtain ⟨⟨v7, F8, A9, J10⟩, hv7, hD⟩ := Option.bind_eq_some_iff.mp hD
      dsimp only at hD
      refine k_runC rfl rfl rfl rfl (t_d_wrong (d := d + 2) ht hv7) ?_
      refine k_runB (pc' := 75) (loc' := [(0, .ref 40960), (1, .int x1), (2, .int x2), (3, .int x3)]) (st' := [.int ((-1))]) 1 rfl ?_
      cases hD
      exact k_iret rfl rfl
    · rw [c26_5, cond_false] at hD
      refine k_runB (pc' := 34) (loc' := [(0, .ref 40960), (1, .int x1), (2, .int x2), (3, .int x3)]) (st' := [.int x3, .ref 40968]) 3 rfl ?_
      obtain ⟨v11, hv11, hD⟩ := Option.bind_eq_some_iff.mp hD
      refine k_ldL rfl rfl hv11 ?_
      refine k_runB (pc' := 40) (loc' := [(0, .ref 40960), (1, .int x1), (2, .int x2), (3, .int x3)]) (st' := [.int x2, .ref 40966, .long (v11)]) 3 rfl ?_
      obtain ⟨v12, hv12, hD⟩ := Option.bind_eq_some_iff.mp hD
      refine k_ldL rfl rfl hv12 ?_
      refine k_runB (pc' := 42) (loc' := [(0, .ref 40960), (1, .int x1), (2, .int x2), (3, .int x3)]) (st' := [.int (lg_cmp v11 v12)]) 1 rfl ?_
      refine k_if rfl (fun c42_12 => ?_) (fun c42_12 => ?_)
      · rw [c42_12, cond_true] at hD
        refine k_wk [0, 1, 2, 3] (loc' := [(0, .ref 40960), (1, .int x1), (2, .int x2), (3, .int x3)]) rfl rfl ?_
        exact t_d_known_62 ht hK21 hD
      · rw [c42_12, cond_false] at hD
        refine k_runB (pc' := 50) (loc' := [(0, .ref 40960), (1, .int x1), (2, .int x2), (3, .int x3)]) (st' := [.int x3, .ref 40969]) 3 rfl ?_
        obtain ⟨v14, hv14, hD⟩ := Option.bind_eq_some_iff.mp hD
        refine k_ldI rfl rfl hv14 ?_
        refine k_runB (pc' := 52) (loc' := [(0, .ref 40960), (1, .int x1), (2, .int x2), (3, .int x3)]) (st' := [.int x1, .int v14]) 1 rfl ?_
        refine k_ic rfl (fun c52_14 => ?_) (fun c52_14 => ?_)
        · rw [c52_14, cond_true] at hD
          refine k_wk [0, 1, 2, 3] (loc' := [(0, .ref 40960), (1, .int x1), (2, .int x2), (3, .int x3)]) rfl rfl ?_
          exact t_d_known_62 ht hK21 hD
        · rw [c52_14, cond_false] at hD
          refine k_runB (pc' := 60) (loc' := [(0, .ref 40960), (1, .int x1), (2, .int x2), (3, .int x3)]) (st' := [.int x3, .ref 40970]) 3 rfl ?_
          obtain ⟨v16, hv16, hD⟩ := Option.bind_eq_some_iff.mp hD
          refine k_ldI rfl rfl hv16 ?_
          cases hD
          exact k_iret rfl rfl
/-- SleepWorkModel.known(I)I -/
def d_known (n : Nat) (F : Nat → Int32) (A : Nat → Nat → Int32) (J : Nat → Nat → Int64) (x1 : Int32) : Option (Int32 × (Nat → Int32) × (Nat → Nat → Int32) × (Nat → Nat → Int64)) :=
  (d_must F A J 1).bind fun (_, F2, A3, J4) =>
  cond (g_cnd .le (F2 13) 0)
  (d_known_21 n F2 A3 J4 x1 (F 11) 0)
  (some ((-1), F2, A3, J4))
theorem t_d_known (ht : ∀ k, t.1 12 k = k_ty 12 k) {n : Nat} {x1 : Int32} {r : Int32} {F' : Nat → Int32} {A' : Nat → Nat → Int32} {J' : Nat → Nat → Int64} : d_known n F A J x1 = some (r, F', A', J') → k_run t lg (d + 3) 162 0 [(0, .ref 40960), (1, .int x1)] [] (m_h c B F A J) (some (.int r), m_h c B F' A' J') := by
  intro hD
  unfold d_known at hD
  refine k_runB (pc' := 7) (loc' := [(0, .ref 40960), (1, .int x1), (2, .int (F 11))]) (st' := [.int 1, .ref 40960]) 5 rfl ?_
  obtain ⟨⟨v1, F2, A3, J4⟩, hv1, hD⟩ := Option.bind_eq_some_iff.mp hD
  dsimp only at hD
  refine k_runC rfl rfl rfl rfl (t_d_must (d := d) ht hv1) ?_
  refine k_runB (pc' := 14) (loc' := [(0, .ref 40960), (1, .int x1), (2, .int (F 11))]) (st' := [.int (F2 13)]) 2 rfl ?_
  refine k_if rfl (fun c14_4 => ?_) (fun c14_4 => ?_)
  · rw [c14_4, cond_true] at hD
    refine k_runB (pc' := 21) (loc' := [(0, .ref 40960), (1, .int x1), (2, .int (F 11)), (3, .int 0)]) (st' := []) 2 rfl ?_
    refine k_wk [0, 1, 2, 3] (loc' := [(0, .ref 40960), (1, .int x1), (2, .int (F 11)), (3, .int 0)]) rfl rfl ?_
    exact t_d_known_21 ht  hD
  · rw [c14_4, cond_false] at hD
    refine k_runB (pc' := 18) (loc' := [(0, .ref 40960), (1, .int x1), (2, .int (F 11))]) (st' := [.int ((-1))]) 1 rfl ?_
    cases hD
    exact k_iret rfl rfl
def d_bounded_51 (F : Nat → Int32) (A : Nat → Nat → Int32) (J : Nat → Nat → Int64) (x3 : Int32) : Option (Int32 × (Nat → Int32) × (Nat → Nat → Int32) × (Nat → Nat → Int64)) :=
    (d_goesOn F A J).bind fun (_, F20, A21, J22) =>
    some (x3, F20, A21, J22)
theorem t_d_bounded_51 (ht : ∀ k, t.1 12 k = k_ty 12 k)  {F : Nat → Int32} {A : Nat → Nat → Int32} {J : Nat → Nat → Int64} {x3 : Int32} {w : Int32 × (Nat → Int32) × (Nat → Nat → Int32) × (Nat → Nat → Int64)} : d_bounded_51 F A J x3 = some w → k_run t lg (d + 2) 163 51 [(0, .ref 40960), (3, .int x3)] [] (m_h c B F A J) (some (.int w.1), m_h c B w.2.1 w.2.2.1 w.2.2.2) := by
  intro hD
  unfold d_bounded_51 at hD
  refine k_runB (pc' := 52) (loc' := [(0, .ref 40960), (3, .int x3)]) (st' := [.ref 40960]) 1 rfl ?_
  obtain ⟨⟨v19, F20, A21, J22⟩, hv19, hD⟩ := Option.bind_eq_some_iff.mp hD
  dsimp only at hD
  refine k_runC rfl rfl rfl rfl (t_d_goesOn (d := d) ht hv19) ?_
  refine k_runB (pc' := 56) (loc' := [(0, .ref 40960), (3, .int x3)]) (st' := [.int x3]) 1 rfl ?_
  cases hD
  exact k_iret rfl rfl
def d_bounded_42 (F : Nat → Int32) (A : Nat → Nat → Int32) (J : Nat → Nat → Int64) (x3 : Int32) : Option (Int32 × (Nat → Int32) × (Nat → Nat → Int32) × (Nat → Nat → Int64)) :=
    (d_wrong F A J 5 (F 11)).bind fun (_, F12, A13, J14) =>
    (d_goesOn F12 A13 J14).bind fun (_, F16, A17, J18) =>
    some (x3, F16, A17, J18)
theorem t_d_bounded_42 (ht : ∀ k, t.1 12 k = k_ty 12 k)  {F : Nat → Int32} {A : Nat → Nat → Int32} {J : Nat → Nat → Int64} {x3 : Int32} {w : Int32 × (Nat → Int32) × (Nat → Nat → Int32) × (Nat → Nat → Int64)} : d_bounded_42 F A J x3 = some w → k_run t lg (d + 2) 163 42 [(0, .ref 40960), (3, .int x3)] [] (m_h c B F A J) (some (.int w.1), m_h c B w.2.1 w.2.2.1 w.2.2.2) := by
  intro hD
  unfold d_bounded_42 at hD
  refine k_runB (pc' := 48) (loc' := [(0, .ref 40960), (3, .int x3)]) (st' := [.int (F 11), .int 5, .ref 40960]) 4 rfl ?_
  obtain ⟨⟨v11, F12, A13, J14⟩, hv11, hD⟩ := Option.bind_eq_some_iff.mp hD
  dsimp only at hD
  refine k_runC rfl rfl rfl rfl (t_d_wrong (d := d + 1) ht hv11) ?_
  refine k_runB (pc' := 52) (loc' := [(0, .ref 40960), (3, .int x3)]) (st' := [.ref 40960]) 1 rfl ?_
  obtain ⟨⟨v15, F16, A17, J18⟩, hv15, hD⟩ := Option.bind_eq_some_iff.mp hD
  dsimp only at hD
  refine k_runC rfl rfl rfl rfl (t_d_goesOn (d := d) ht hv15) ?_
  refine k_runB (pc' := 56) (loc' := [(0, .ref 40960), (3, .int x3)]) (st' := [.int x3]) 1 rfl ?_
  cases hD
  exact k_iret rfl rfl
def d_bounded_15 (F : Nat → Int32) (A : Nat → Nat → Int32) (J : Nat → Nat → Int64) (x1 : Int32) : Option (Int32 × (Nat → Int32) × (Nat → Nat → Int32) × (Nat → Nat → Int64)) :=
    (d_fail F A J 1).bind fun (_, F8, A9, J10) =>
    some (x1, F8, A9, J10)
theorem t_d_bounded_15 (ht : ∀ k, t.1 12 k = k_ty 12 k)  {F : Nat → Int32} {A : Nat → Nat → Int32} {J : Nat → Nat → Int64} {x1 : Int32} {w : Int32 × (Nat → Int32) × (Nat → Nat → Int32) × (Nat → Nat → Int64)} : d_bounded_15 F A J x1 = some w → k_run t lg (d + 2) 163 15 [(0, .ref 40960), (1, .int x1)] [] (m_h c B F A J) (some (.int w.1), m_h c B w.2.1 w.2.2.1 w.2.2.2) := by
  intro hD
  unfold d_bounded_15 at hD
  refine k_runB (pc' := 17) (loc' := [(0, .ref 40960), (1, .int x1)]) (st' := [.int 1, .ref 40960]) 2 rfl ?_
  obtain ⟨⟨v7, F8, A9, J10⟩, hv7, hD⟩ := Option.bind_eq_some_iff.mp hD
  dsimp only at hD
  refine k_runC rfl rfl rfl rfl (t_d_fail (d := d + 1) ht hv7) ?_
  refine k_runB (pc' := 21) (loc' := [(0, .ref 40960), (1, .int x1)]) (st' := [.int x1]) 1 rfl ?_
  cases hD
  exact k_iret rfl rfl
/-- SleepWorkModel.bounded(II)I -/
def d_bounded (F : Nat → Int32) (A : Nat → Nat → Int32) (J : Nat → Nat → Int64) (x1 : Int32) (x2 : Int32) : Option (Int32 × (Nat → Int32) × (Nat → Nat → Int32) × (Nat → Nat → Int64)) :=
  cond (g_cnd .gt (F 13) 0)
  (d_bounded_15 F A J x1)
  ((d_is F A J 2).bind fun v2 =>
  cond (g_cnd .ne v2 0)
  ((m_ld (A 5) 403 (F 11)).bind fun v4 =>
  cond (g_cnd .lt v4 x1)
  (d_bounded_42 F A J v4)
  (cond (g_cnd .le v4 x2)
  (d_bounded_51 F A J v4)
  (d_bounded_42 F A J v4)))
  (d_bounded_15 F A J x1))
theorem t_d_bounded (ht : ∀ k, t.1 12 k = k_ty 12 k) {x1 : Int32} {x2 : Int32} {r : Int32} {F' : Nat → Int32} {A' : Nat → Nat → Int32} {J' : Nat → Nat → Int64} : d_bounded F A J x1 x2 = some (r, F', A', J') → k_run t lg (d + 2) 163 0 [(0, .ref 40960), (1, .int x1), (2, .int x2)] [] (m_h c B F A J) (some (.int r), m_h c B F' A' J') := by
  intro hD
  unfold d_bounded at hD
  refine k_runB (pc' := 4) (loc' := [(0, .ref 40960), (1, .int x1), (2, .int x2)]) (st' := [.int (F 13)]) 2 rfl ?_
  refine k_if rfl (fun c4_0 => ?_) (fun c4_0 => ?_)
  · rw [c4_0, cond_true] at hD
    refine k_wk [0, 1] (loc' := [(0, .ref 40960), (1, .int x1)]) rfl rfl ?_
    exact t_d_bounded_15 ht  hD
  · rw [c4_0, cond_false] at hD
    refine k_runB (pc' := 9) (loc' := [(0, .ref 40960), (1, .int x1), (2, .int x2)]) (st' := [.int 2, .ref 40960]) 2 rfl ?_
    obtain ⟨v2, hv2, hD⟩ := Option.bind_eq_some_iff.mp hD
    refine k_runC rfl rfl rfl rfl (t_d_is (d := d + 1) hv2) ?_
    refine k_if rfl (fun c12_2 => ?_) (fun c12_2 => ?_)
    · rw [c12_2, cond_true] at hD
      refine k_runB (pc' := 30) (loc' := [(0, .ref 40960), (1, .int x1), (2, .int x2)]) (st' := [.int (F 11), .ref 40965]) 4 rfl ?_
      obtain ⟨v4, hv4, hD⟩ := Option.bind_eq_some_iff.mp hD
      refine k_ldI rfl rfl hv4 ?_
      refine k_runB (pc' := 34) (loc' := [(0, .ref 40960), (1, .int x1), (2, .int x2), (3, .int v4)]) (st' := [.int x1, .int v4]) 3 rfl ?_
      refine k_ic rfl (fun c34_4 => ?_) (fun c34_4 => ?_)
      · rw [c34_4, cond_true] at hD
        refine k_wk [0, 3] (loc' := [(0, .ref 40960), (3, .int v4)]) rfl rfl ?_
        exact t_d_bounded_42 ht  hD
      · rw [c34_4, cond_false] at hD
        refine k_runB (pc' := 39) (loc' := [(0, .ref 40960), (1, .int x1), (2, .int x2), (3, .int v4)]) (st' := [.int x2, .int v4]) 2 rfl ?_
        refine k_ic rfl (fun c39_5 => ?_) (fun c39_5 => ?_)
        · rw [c39_5, cond_true] at hD
          refine k_wk [0, 3] (loc' := [(0, .ref 40960), (3, .int v4)]) rfl rfl ?_
          exact t_d_bounded_51 ht  hD
        · rw [c39_5, cond_false] at hD
          refine k_wk [0, 3] (loc' := [(0, .ref 40960), (3, .int v4)]) rfl rfl ?_
          exact t_d_bounded_42 ht  hD
    · rw [c12_2, cond_false] at hD
      refine k_wk [0, 1] (loc' := [(0, .ref 40960), (1, .int x1)]) rfl rfl ?_
      exact t_d_bounded_15 ht  hD
end MD
end Qz1
section Qz2
/-! the reference's methods as functions (printed by wip/dec.py) -/
section MD
variable {t : gT} {lg : Nat → Nat} {d : Nat} {c : Nat × Nat} {B : Nat → List gE} {F : Nat → Int32} {A : Nat → Nat → Int32} {J : Nat → Nat → Int64}
/-- SleepWorkModel.tellRoom()V -/
def d_tellRoom (n : Nat) (F : Nat → Int32) (A : Nat → Nat → Int32) (J : Nat → Nat → Int64) : Option (Unit × (Nat → Int32) × (Nat → Nat → Int32) × (Nat → Nat → Int64)) :=
  (d_named n F A J).bind fun (v1, F2, A3, J4) =>
  (d_must F2 A3 J4 4).bind fun (_, F6, A7, J8) =>
  cond (g_cnd .le (F6 13) 0)
  ((m_ld (A7 11) 2 (F6 19)).bind fun v10 =>
  (d_notes F6 A7 J8 v1 0 v10).bind fun (_, F12, A13, J14) =>
  (m_ld (A13 11) 2 (F12 19)).bind fun v15 =>
  (m_st A13 11 2 (F12 19) (v15 + 1)).bind fun A16 =>
  some ((), F12, A16, J14))
  (some ((), F6, A7, J8))
theorem t_d_tellRoom (ht : ∀ k, t.1 12 k = k_ty 12 k) {n : Nat} {r : Unit} {F' : Nat → Int32} {A' : Nat → Nat → Int32} {J' : Nat → Nat → Int64} : d_tellRoom n F A J = some (r, F', A', J') → k_run t lg (d + 4) 164 0 [(0, .ref 40960)] [] (m_h c B F A J) (none, m_h c B F' A' J') := by
  intro hD
  unfold d_tellRoom at hD
  refine k_runB (pc' := 1) (loc' := [(0, .ref 40960)]) (st' := [.ref 40960]) 1 rfl ?_
  obtain ⟨⟨v1, F2, A3, J4⟩, hv1, hD⟩ := Option.bind_eq_some_iff.mp hD
  dsimp only at hD
  refine k_runC rfl rfl rfl rfl (t_d_named (d := d) ht hv1) ?_
  refine k_runB (pc' := 7) (loc' := [(0, .ref 40960), (1, .int v1)]) (st' := [.int 4, .ref 40960]) 3 rfl ?_
  obtain ⟨⟨v5, F6, A7, J8⟩, hv5, hD⟩ := Option.bind_eq_some_iff.mp hD
  dsimp only at hD
  refine k_runC rfl rfl rfl rfl (t_d_must (d := d + 1) ht hv5) ?_
  refine k_runB (pc' := 14) (loc' := [(0, .ref 40960), (1, .int v1)]) (st' := [.int (F6 13)]) 2 rfl ?_
  refine k_if rfl (fun c14_8 => ?_) (fun c14_8 => ?_)
  · rw [c14_8, cond_true] at hD
    refine k_runB (pc' := 29) (loc' := [(0, .ref 40960), (1, .int v1)]) (st' := [.int (F6 19), .ref 40971, .int 0, .int v1, .ref 40960]) 7 rfl ?_
    obtain ⟨v10, hv10, hD⟩ := Option.bind_eq_some_iff.mp hD
    refine k_ldI rfl rfl hv10 ?_
    obtain ⟨⟨v11, F12, A13, J14⟩, hv11, hD⟩ := Option.bind_eq_some_iff.mp hD
    dsimp only at hD
    refine k_runC rfl rfl rfl rfl (t_d_notes (d := d + 3) ht hv11) ?_
    refine k_runB (pc' := 42) (loc' := [(0, .ref 40960), (1, .int v1)]) (st' := [.int (F12 19), .ref 40971, .int (F12 19), .ref 40971]) 5 rfl ?_
    obtain ⟨v15, hv15, hD⟩ := Option.bind_eq_some_iff.mp hD
    refine k_ldI rfl rfl hv15 ?_
    refine k_runB (pc' := 45) (loc' := [(0, .ref 40960), (1, .int v1)]) (st' := [.int (v15 + 1), .int (F12 19), .ref 40971]) 2 rfl ?_
    obtain ⟨A16, hA16, hD⟩ := Option.bind_eq_some_iff.mp hD
    refine k_stI 11 rfl rfl (fun _ => rfl) hA16 ?_
    cases hD
    exact k_vret rfl rfl
  · rw [c14_8, cond_false] at hD
    cases hD
    exact k_vret rfl rfl
def d_tellDoor_135 (n : Nat) (F : Nat → Int32) (A : Nat → Nat → Int32) (J : Nat → Nat → Int64) : Option (Unit × (Nat → Int32) × (Nat → Nat → Int32) × (Nat → Nat → Int64)) :=
    (d_must F A J 4).bind fun (_, F53, A54, J55) =>
    cond (g_cnd .ne (F53 13) 0)
    (some ((), F53, A54, J55))
    ((m_ld (A54 12) 2 (F53 19)).bind fun v57 =>
    (m_st A54 12 2 (F53 19) (v57 + 1)).bind fun A58 =>
    some ((), F53, A58, J55))
theorem t_d_tellDoor_135 (ht : ∀ k, t.1 12 k = k_ty 12 k) {n : Nat}  {F : Nat → Int32} {A : Nat → Nat → Int32} {J : Nat → Nat → Int64}  {w : Unit × (Nat → Int32) × (Nat → Nat → Int32) × (Nat → Nat → Int64)} : d_tellDoor_135 n F A J = some w → k_run t lg (d + 4) 165 135 [(0, .ref 40960)] [] (m_h c B F A J) (none, m_h c B w.2.1 w.2.2.1 w.2.2.2) := by
  intro hD
  unfold d_tellDoor_135 at hD
  refine k_runB (pc' := 137) (loc' := [(0, .ref 40960)]) (st' := [.int 4, .ref 40960]) 2 rfl ?_
  obtain ⟨⟨v52, F53, A54, J55⟩, hv52, hD⟩ := Option.bind_eq_some_iff.mp hD
  dsimp only at hD
  refine k_runC rfl rfl rfl rfl (t_d_must (d := d + 1) ht hv52) ?_
  refine k_runB (pc' := 144) (loc' := [(0, .ref 40960)]) (st' := [.int (F53 13)]) 2 rfl ?_
  refine k_if rfl (fun c144_55 => ?_) (fun c144_55 => ?_)
  · rw [c144_55, cond_true] at hD
    cases hD
    exact k_vret rfl rfl
  · rw [c144_55, cond_false] at hD
    refine k_runB (pc' := 156) (loc' := [(0, .ref 40960)]) (st' := [.int (F53 19), .ref 40972, .int (F53 19), .ref 40972]) 5 rfl ?_
    obtain ⟨v57, hv57, hD⟩ := Option.bind_eq_some_iff.mp hD
    refine k_ldI rfl rfl hv57 ?_
    refine k_runB (pc' := 159) (loc' := [(0, .ref 40960)]) (st' := [.int (v57 + 1), .int (F53 19), .ref 40972]) 2 rfl ?_
    obtain ⟨A58, hA58, hD⟩ := Option.bind_eq_some_iff.mp hD
    refine k_stI 12 rfl rfl (fun _ => rfl) hA58 ?_
    cases hD
    exact k_vret rfl rfl
def d_tellDoor_121 (n : Nat) (F : Nat → Int32) (A : Nat → Nat → Int32) (J : Nat → Nat → Int64) (x1 : Int32) (s1 : Int32) (s2 : Int32) : Option (Unit × (Nat → Int32) × (Nat → Nat → Int32) × (Nat → Nat → Int64)) :=
    (m_st A 16 24 s1 (vp_nar .boolean s2)).bind fun A38 =>
    (m_ld (A38 16) 24 x1).bind fun v39 =>
    cond (g_cnd .eq v39 0)
    (d_tellDoor_135 n F A38 J)
    ((d_goesOn F A38 J).bind fun (_, F42, A43, J44) =>
    (d_must F42 A43 J44 4).bind fun (_, F46, A47, J48) =>
    cond (g_cnd .ne (F46 13) 0)
    (some ((), F46, A47, J48))
    ((m_ld (A47 12) 2 (F46 19)).bind fun v50 =>
    (m_st A47 12 2 (F46 19) (v50 + 1)).bind fun A51 =>
    some ((), F46, A51, J48)))
theorem t_d_tellDoor_121 (ht : ∀ k, t.1 12 k = k_ty 12 k) {n : Nat}  {F : Nat → Int32} {A : Nat → Nat → Int32} {J : Nat → Nat → Int64} {x1 : Int32} {s1 : Int32} {s2 : Int32} {w : Unit × (Nat → Int32) × (Nat → Nat → Int32) × (Nat → Nat → Int64)} : d_tellDoor_121 n F A J x1 s1 s2 = some w → k_run t lg (d + 4) 165 121 [(0, .ref 40960), (1, .int x1)] [.int s2, .int s1, .ref 40976] (m_h c B F A J) (none, m_h c B w.2.1 w.2.2.1 w.2.2.2) := by
  intro hD
  unfold d_tellDoor_121 at hD
  obtain ⟨A38, hA38, hD⟩ := Option.bind_eq_some_iff.mp hD
  refine k_stZ 16 rfl rfl (fun _ => rfl) hA38 ?_
  refine k_runB (pc' := 127) (loc' := [(0, .ref 40960), (1, .int x1)]) (st' := [.int x1, .ref 40976]) 3 rfl ?_
  obtain ⟨v39, hv39, hD⟩ := Option.bind_eq_some_iff.mp hD
  refine k_ldZ rfl rfl hv39 ?_
  refine k_if rfl (fun c128_39 => ?_) (fun c128_39 => ?_)
  · rw [c128_39, cond_true] at hD
    refine k_wk [0] (loc' := [(0, .ref 40960)]) rfl rfl ?_
    exact t_d_tellDoor_135 ht  hD
  · rw [c128_39, cond_false] at hD
    refine k_runB (pc' := 132) (loc' := [(0, .ref 40960), (1, .int x1)]) (st' := [.ref 40960]) 1 rfl ?_
    obtain ⟨⟨v41, F42, A43, J44⟩, hv41, hD⟩ := Option.bind_eq_some_iff.mp hD
    dsimp only at hD
    refine k_runC rfl rfl rfl rfl (t_d_goesOn (d := d + 2) ht hv41) ?_
    refine k_runB (pc' := 137) (loc' := [(0, .ref 40960), (1, .int x1)]) (st' := [.int 4, .ref 40960]) 2 rfl ?_
    obtain ⟨⟨v45, F46, A47, J48⟩, hv45, hD⟩ := Option.bind_eq_some_iff.mp hD
    dsimp only at hD
    refine k_runC rfl rfl rfl rfl (t_d_must (d := d + 1) ht hv45) ?_
    refine k_runB (pc' := 144) (loc' := [(0, .ref 40960), (1, .int x1)]) (st' := [.int (F46 13)]) 2 rfl ?_
    refine k_if rfl (fun c144_48 => ?_) (fun c144_48 => ?_)
    · rw [c144_48, cond_true] at hD
      cases hD
      exact k_vret rfl rfl
    · rw [c144_48, cond_false] at hD
      refine k_runB (pc' := 156) (loc' := [(0, .ref 40960), (1, .int x1)]) (st' := [.int (F46 19), .ref 40972, .int (F46 19), .ref 40972]) 5 rfl ?_
      obtain ⟨v50, hv50, hD⟩ := Option.bind_eq_some_iff.mp hD
      refine k_ldI rfl rfl hv50 ?_
      refine k_runB (pc' := 159) (loc' := [(0, .ref 40960), (1, .int x1)]) (st' := [.int (v50 + 1), .int (F46 19), .ref 40972]) 2 rfl ?_
      obtain ⟨A51, hA51, hD⟩ := Option.bind_eq_some_iff.mp hD
      refine k_stI 12 rfl rfl (fun _ => rfl) hA51 ?_
      cases hD
      exact k_vret rfl rfl
def d_tellDoor_120 (n : Nat) (F : Nat → Int32) (A : Nat → Nat → Int32) (J : Nat → Nat → Int64) (x1 : Int32) (s1 : Int32) : Option (Unit × (Nat → Int32) × (Nat → Nat → Int32) × (Nat → Nat → Int64)) :=
    d_tellDoor_121 n F A J x1 s1 0
theorem t_d_tellDoor_120 (ht : ∀ k, t.1 12 k = k_ty 12 k) {n : Nat}  {F : Nat → Int32} {A : Nat → Nat → Int32} {J : Nat → Nat → Int64} {x1 : Int32} {s1 : Int32} {w : Unit × (Nat → Int32) × (Nat → Nat → Int32) × (Nat → Nat → Int64)} : d_tellDoor_120 n F A J x1 s1 = some w → k_run t lg (d + 4) 165 120 [(0, .ref 40960), (1, .int x1)] [.int s1, .ref 40976] (m_h c B F A J) (none, m_h c B w.2.1 w.2.2.1 w.2.2.2) := by
  intro hD
  unfold d_tellDoor_120 at hD
  refine k_runB (pc' := 121) (loc' := [(0, .ref 40960), (1, .int x1)]) (st' := [.int 0, .int s1, .ref 40976]) 1 rfl ?_
  refine k_wk [0, 1] (loc' := [(0, .ref 40960), (1, .int x1)]) rfl rfl ?_
  exact t_d_tellDoor_121 ht  hD
def d_tellDoor_82 (n : Nat) (F : Nat → Int32) (A : Nat → Nat → Int32) (J : Nat → Nat → Int64) (x1 : Int32) : Option (Unit × (Nat → Int32) × (Nat → Nat → Int32) × (Nat → Nat → Int64)) :=
    (d_bounded F A J 1 60).bind fun (v30, F31, A32, J33) =>
    (m_st A32 15 24 x1 v30).bind fun A34 =>
    cond (g_cnd .ne (F31 13) 0)
    (d_tellDoor_120 n F31 A34 J33 x1 x1)
    ((d_is F31 A34 J33 22).bind fun v36 =>
    cond (g_cnd .eq v36 0)
    (d_tellDoor_120 n F31 A34 J33 x1 x1)
    (d_tellDoor_121 n F31 A34 J33 x1 x1 1))
theorem t_d_tellDoor_82 (ht : ∀ k, t.1 12 k = k_ty 12 k) {n : Nat}  {F : Nat → Int32} {A : Nat → Nat → Int32} {J : Nat → Nat → Int64} {x1 : Int32} {w : Unit × (Nat → Int32) × (Nat → Nat → Int32) × (Nat → Nat → Int64)} : d_tellDoor_82 n F A J x1 = some w → k_run t lg (d + 4) 165 82 [(0, .ref 40960), (1, .int x1)] [] (m_h c B F A J) (none, m_h c B w.2.1 w.2.2.1 w.2.2.2) := by
  intro hD
  unfold d_tellDoor_82 at hD
  refine k_runB (pc' := 91) (loc' := [(0, .ref 40960), (1, .int x1)]) (st' := [.int 60, .int 1, .ref 40960, .int x1, .ref 40975]) 6 rfl ?_
  obtain ⟨⟨v30, F31, A32, J33⟩, hv30, hD⟩ := Option.bind_eq_some_iff.mp hD
  dsimp only at hD
  refine k_runC rfl rfl rfl rfl (t_d_bounded (d := d + 1) ht hv30) ?_
  obtain ⟨A34, hA34, hD⟩ := Option.bind_eq_some_iff.mp hD
  refine k_stI 15 rfl rfl (fun _ => rfl) hA34 ?_
  refine k_runB (pc' := 104) (loc' := [(0, .ref 40960), (1, .int x1)]) (st' := [.int (F31 13), .int x1, .ref 40976]) 5 rfl ?_
  refine k_if rfl (fun c104_34 => ?_) (fun c104_34 => ?_)
  · rw [c104_34, cond_true] at hD
    refine k_wk [0, 1] (loc' := [(0, .ref 40960), (1, .int x1)]) rfl rfl ?_
    exact t_d_tellDoor_120 ht  hD
  · rw [c104_34, cond_false] at hD
    refine k_runB (pc' := 110) (loc' := [(0, .ref 40960), (1, .int x1)]) (st' := [.int 22, .ref 40960, .int x1, .ref 40976]) 2 rfl ?_
    obtain ⟨v36, hv36, hD⟩ := Option.bind_eq_some_iff.mp hD
    refine k_runC rfl rfl rfl rfl (t_d_is (d := d + 3) hv36) ?_
    refine k_if rfl (fun c113_36 => ?_) (fun c113_36 => ?_)
    · rw [c113_36, cond_true] at hD
      refine k_wk [0, 1] (loc' := [(0, .ref 40960), (1, .int x1)]) rfl rfl ?_
      exact t_d_tellDoor_120 ht  hD
    · rw [c113_36, cond_false] at hD
      refine k_runB (pc' := 121) (loc' := [(0, .ref 40960), (1, .int x1)]) (st' := [.int 1, .int x1, .ref 40976]) 2 rfl ?_
      refine k_wk [0, 1] (loc' := [(0, .ref 40960), (1, .int x1)]) rfl rfl ?_
      exact t_d_tellDoor_121 ht  hD
/-- SleepWorkModel.tellDoor()V -/
def d_tellDoor (n : Nat) (F : Nat → Int32) (A : Nat → Nat → Int32) (J : Nat → Nat → Int64) : Option (Unit × (Nat → Int32) × (Nat → Nat → Int32) × (Nat → Nat → Int64)) :=
  (m_ld (A 12) 2 (F 19)).bind fun v1 =>
  (d_known n F A J 0).bind fun (v2, F3, A4, J5) =>
  (m_st A4 13 24 ((12 * (F 19)) + v1) v2).bind fun A6 =>
  (d_known n F3 A6 J5 0).bind fun (v7, F8, A9, J10) =>
  (m_st A9 14 24 ((12 * (F 19)) + v1) v7).bind fun A11 =>
  cond (g_cnd .ne (F8 13) 0)
  (d_tellDoor_82 n F8 A11 J10 ((12 * (F 19)) + v1))
  ((m_ld (A11 13) 24 ((12 * (F 19)) + v1)).bind fun v13 =>
  cond (g_cnd .lt v13 0)
  (d_tellDoor_82 n F8 A11 J10 ((12 * (F 19)) + v1))
  ((m_ld (A11 13) 24 ((12 * (F 19)) + v1)).bind fun v15 =>
  (m_ld (A11 14) 24 ((12 * (F 19)) + v1)).bind fun v16 =>
  cond (g_cnd .ne v15 v16)
  (d_tellDoor_82 n F8 A11 J10 ((12 * (F 19)) + v1))
  ((d_wrong F8 A11 J10 5 (F3 11)).bind fun (_, F19, A20, J21) =>
  (d_bounded F19 A20 J21 1 60).bind fun (v22, F23, A24, J25) =>
  (m_st A24 15 24 ((12 * (F 19)) + v1) v22).bind fun A26 =>
  cond (g_cnd .ne (F23 13) 0)
  (d_tellDoor_120 n F23 A26 J25 ((12 * (F 19)) + v1) ((12 * (F 19)) + v1))
  ((d_is F23 A26 J25 22).bind fun v28 =>
  cond (g_cnd .eq v28 0)
  (d_tellDoor_120 n F23 A26 J25 ((12 * (F 19)) + v1) ((12 * (F 19)) + v1))
  (d_tellDoor_121 n F23 A26 J25 ((12 * (F 19)) + v1) ((12 * (F 19)) + v1) 1)))))
theorem t_d_tellDoor (ht : ∀ k, t.1 12 k = k_ty 12 k) {n : Nat} {r : Unit} {F' : Nat → Int32} {A' : Nat → Nat → Int32} {J' : Nat → Nat → Int64} : d_tellDoor n F A J = some (r, F', A', J') → k_run t lg (d + 4) 165 0 [(0, .ref 40960)] [] (m_h c B F A J) (none, m_h c B F' A' J') := by
  intro hD
  unfold d_tellDoor at hD
  refine k_runB (pc' := 15) (loc' := [(0, .ref 40960)]) (st' := [.int (F 19), .ref 40972, .int (12 * (F 19))]) 8 rfl ?_
  obtain ⟨v1, hv1, hD⟩ := Option.bind_eq_some_iff.mp hD
  refine k_ldI rfl rfl hv1 ?_
  refine k_runB (pc' := 25) (loc' := [(0, .ref 40960), (1, .int ((12 * (F 19)) + v1))]) (st' := [.int 0, .ref 40960, .int ((12 * (F 19)) + v1), .ref 40973]) 7 rfl ?_
  obtain ⟨⟨v2, F3, A4, J5⟩, hv2, hD⟩ := Option.bind_eq_some_iff.mp hD
  dsimp only at hD
  refine k_runC rfl rfl rfl rfl (t_d_known (d := d) ht hv2) ?_
  obtain ⟨A6, hA6, hD⟩ := Option.bind_eq_some_iff.mp hD
  refine k_stI 13 rfl rfl (fun _ => rfl) hA6 ?_
  refine k_runB (pc' := 41) (loc' := [(0, .ref 40960), (1, .int ((12 * (F 19)) + v1)), (2, .int (F3 11))]) (st' := [.int 0, .ref 40960, .int ((12 * (F 19)) + v1), .ref 40974]) 8 rfl ?_
  obtain ⟨⟨v7, F8, A9, J10⟩, hv7, hD⟩ := Option.bind_eq_some_iff.mp hD
  dsimp only at hD
  refine k_runC rfl rfl rfl rfl (t_d_known (d := d) ht hv7) ?_
  obtain ⟨A11, hA11, hD⟩ := Option.bind_eq_some_iff.mp hD
  refine k_stI 14 rfl rfl (fun _ => rfl) hA11 ?_
  refine k_runB (pc' := 49) (loc' := [(0, .ref 40960), (1, .int ((12 * (F 19)) + v1)), (2, .int (F3 11))]) (st' := [.int (F8 13)]) 2 rfl ?_
  refine k_if rfl (fun c49_11 => ?_) (fun c49_11 => ?_)
  · rw [c49_11, cond_true] at hD
    refine k_wk [0, 1] (loc' := [(0, .ref 40960), (1, .int ((12 * (F 19)) + v1))]) rfl rfl ?_
    exact t_d_tellDoor_82 ht  hD
  · rw [c49_11, cond_false] at hD
    refine k_runB (pc' := 57) (loc' := [(0, .ref 40960), (1, .int ((12 * (F 19)) + v1)), (2, .int (F3 11))]) (st' := [.int ((12 * (F 19)) + v1), .ref 40973]) 3 rfl ?_
    obtain ⟨v13, hv13, hD⟩ := Option.bind_eq_some_iff.mp hD
    refine k_ldI rfl rfl hv13 ?_
    refine k_if rfl (fun c58_13 => ?_) (fun c58_13 => ?_)
    · rw [c58_13, cond_true] at hD
      refine k_wk [0, 1] (loc' := [(0, .ref 40960), (1, .int ((12 * (F 19)) + v1))]) rfl rfl ?_
      exact t_d_tellDoor_82 ht  hD
    · rw [c58_13, cond_false] at hD
      refine k_runB (pc' := 66) (loc' := [(0, .ref 40960), (1, .int ((12 * (F 19)) + v1)), (2, .int (F3 11))]) (st' := [.int ((12 * (F 19)) + v1), .ref 40973]) 3 rfl ?_
      obtain ⟨v15, hv15, hD⟩ := Option.bind_eq_some_iff.mp hD
      refine k_ldI rfl rfl hv15 ?_
      refine k_runB (pc' := 72) (loc' := [(0, .ref 40960), (1, .int ((12 * (F 19)) + v1)), (2, .int (F3 11))]) (st' := [.int ((12 * (F 19)) + v1), .ref 40974, .int v15]) 3 rfl ?_
      obtain ⟨v16, hv16, hD⟩ := Option.bind_eq_some_iff.mp hD
      refine k_ldI rfl rfl hv16 ?_
      refine k_ic rfl (fun c73_16 => ?_) (fun c73_16 => ?_)
      · rw [c73_16, cond_true] at hD
        refine k_wk [0, 1] (loc' := [(0, .ref 40960), (1, .int ((12 * (F 19)) + v1))]) rfl rfl ?_
        exact t_d_tellDoor_82 ht  hD
      · rw [c73_16, cond_false] at hD
        refine k_runB (pc' := 79) (loc' := [(0, .ref 40960), (1, .int ((12 * (F 19)) + v1)), (2, .int (F3 11))]) (st' := [.int (F3 11), .int 5, .ref 40960]) 3 rfl ?_
        obtain ⟨⟨v18, F19, A20, J21⟩, hv18, hD⟩ := Option.bind_eq_some_iff.mp hD
        dsimp only at hD
        refine k_runC rfl rfl rfl rfl (t_d_wrong (d := d + 3) ht hv18) ?_
        refine k_runB (pc' := 91) (loc' := [(0, .ref 40960), (1, .int ((12 * (F 19)) + v1)), (2, .int (F3 11))]) (st' := [.int 60, .int 1, .ref 40960, .int ((12 * (F 19)) + v1), .ref 40975]) 6 rfl ?_
        obtain ⟨⟨v22, F23, A24, J25⟩, hv22, hD⟩ := Option.bind_eq_some_iff.mp hD
        dsimp only at hD
        refine k_runC rfl rfl rfl rfl (t_d_bounded (d := d + 1) ht hv22) ?_
        obtain ⟨A26, hA26, hD⟩ := Option.bind_eq_some_iff.mp hD
        refine k_stI 15 rfl rfl (fun _ => rfl) hA26 ?_
        refine k_runB (pc' := 104) (loc' := [(0, .ref 40960), (1, .int ((12 * (F 19)) + v1)), (2, .int (F3 11))]) (st' := [.int (F23 13), .int ((12 * (F 19)) + v1), .ref 40976]) 5 rfl ?_
        refine k_if rfl (fun c104_26 => ?_) (fun c104_26 => ?_)
        · rw [c104_26, cond_true] at hD
          refine k_wk [0, 1] (loc' := [(0, .ref 40960), (1, .int ((12 * (F 19)) + v1))]) rfl rfl ?_
          exact t_d_tellDoor_120 ht  hD
        · rw [c104_26, cond_false] at hD
          refine k_runB (pc' := 110) (loc' := [(0, .ref 40960), (1, .int ((12 * (F 19)) + v1)), (2, .int (F3 11))]) (st' := [.int 22, .ref 40960, .int ((12 * (F 19)) + v1), .ref 40976]) 2 rfl ?_
          obtain ⟨v28, hv28, hD⟩ := Option.bind_eq_some_iff.mp hD
          refine k_runC rfl rfl rfl rfl (t_d_is (d := d + 3) hv28) ?_
          refine k_if rfl (fun c113_28 => ?_) (fun c113_28 => ?_)
          · rw [c113_28, cond_true] at hD
            refine k_wk [0, 1] (loc' := [(0, .ref 40960), (1, .int ((12 * (F 19)) + v1))]) rfl rfl ?_
            exact t_d_tellDoor_120 ht  hD
          · rw [c113_28, cond_false] at hD
            refine k_runB (pc' := 121) (loc' := [(0, .ref 40960), (1, .int ((12 * (F 19)) + v1)), (2, .int (F3 11))]) (st' := [.int 1, .int ((12 * (F 19)) + v1), .ref 40976]) 2 rfl ?_
            refine k_wk [0, 1] (loc' := [(0, .ref 40960), (1, .int ((12 * (F 19)) + v1))]) rfl rfl ?_
            exact t_d_tellDoor_121 ht  hD
/-- SleepWorkModel.tellTool()V -/
def d_tellTool (n : Nat) (F : Nat → Int32) (A : Nat → Nat → Int32) (J : Nat → Nat → Int64) : Option (Unit × (Nat → Int32) × (Nat → Nat → Int32) × (Nat → Nat → Int64)) :=
  (d_named n F A J).bind fun (v1, F2, A3, J4) =>
  (m_ld (A3 17) 2 (F2 19)).bind fun v5 =>
  (d_known n F2 A3 J4 0).bind fun (v6, F7, A8, J9) =>
  (m_st A8 18 12 ((6 * (F2 19)) + v5) v6).bind fun A10 =>
  (d_must F7 A10 J9 4).bind fun (_, F12, A13, J14) =>
  cond (g_cnd .le (F12 13) 0)
  ((m_ld (A13 17) 2 (F12 19)).bind fun v16 =>
  (d_notes F12 A13 J14 v1 1 v16).bind fun (_, F18, A19, J20) =>
  (m_ld (A19 17) 2 (F18 19)).bind fun v21 =>
  (m_st A19 17 2 (F18 19) (v21 + 1)).bind fun A22 =>
  some ((), F18, A22, J20))
  (some ((), F12, A13, J14))
theorem t_d_tellTool (ht : ∀ k, t.1 12 k = k_ty 12 k) {n : Nat} {r : Unit} {F' : Nat → Int32} {A' : Nat → Nat → Int32} {J' : Nat → Nat → Int64} : d_tellTool n F A J = some (r, F', A', J') → k_run t lg (d + 4) 166 0 [(0, .ref 40960)] [] (m_h c B F A J) (none, m_h c B F' A' J') := by
  intro hD
  unfold d_tellTool at hD
  refine k_runB (pc' := 1) (loc' := [(0, .ref 40960)]) (st' := [.ref 40960]) 1 rfl ?_
  obtain ⟨⟨v1, F2, A3, J4⟩, hv1, hD⟩ := Option.bind_eq_some_iff.mp hD
  dsimp only at hD
  refine k_runC rfl rfl rfl rfl (t_d_named (d := d) ht hv1) ?_
  refine k_runB (pc' := 24) (loc' := [(0, .ref 40960), (1, .int v1)]) (st' := [.int (F2 19), .ref 40977, .int (6 * (F2 19)), .ref 40978]) 11 rfl ?_
  obtain ⟨v5, hv5, hD⟩ := Option.bind_eq_some_iff.mp hD
  refine k_ldI rfl rfl hv5 ?_
  refine k_runB (pc' := 28) (loc' := [(0, .ref 40960), (1, .int v1)]) (st' := [.int 0, .ref 40960, .int ((6 * (F2 19)) + v5), .ref 40978]) 3 rfl ?_
  obtain ⟨⟨v6, F7, A8, J9⟩, hv6, hD⟩ := Option.bind_eq_some_iff.mp hD
  dsimp only at hD
  refine k_runC rfl rfl rfl rfl (t_d_known (d := d) ht hv6) ?_
  obtain ⟨A10, hA10, hD⟩ := Option.bind_eq_some_iff.mp hD
  refine k_stI 18 rfl rfl (fun _ => rfl) hA10 ?_
  refine k_runB (pc' := 34) (loc' := [(0, .ref 40960), (1, .int v1)]) (st' := [.int 4, .ref 40960]) 2 rfl ?_
  obtain ⟨⟨v11, F12, A13, J14⟩, hv11, hD⟩ := Option.bind_eq_some_iff.mp hD
  dsimp only at hD
  refine k_runC rfl rfl rfl rfl (t_d_must (d := d + 1) ht hv11) ?_
  refine k_runB (pc' := 41) (loc' := [(0, .ref 40960), (1, .int v1)]) (st' := [.int (F12 13)]) 2 rfl ?_
  refine k_if rfl (fun c41_14 => ?_) (fun c41_14 => ?_)
  · rw [c41_14, cond_true] at hD
    refine k_runB (pc' := 56) (loc' := [(0, .ref 40960), (1, .int v1)]) (st' := [.int (F12 19), .ref 40977, .int 1, .int v1, .ref 40960]) 7 rfl ?_
    obtain ⟨v16, hv16, hD⟩ := Option.bind_eq_some_iff.mp hD
    refine k_ldI rfl rfl hv16 ?_
    obtain ⟨⟨v17, F18, A19, J20⟩, hv17, hD⟩ := Option.bind_eq_some_iff.mp hD
    dsimp only at hD
    refine k_runC rfl rfl rfl rfl (t_d_notes (d := d + 3) ht hv17) ?_
    refine k_runB (pc' := 69) (loc' := [(0, .ref 40960), (1, .int v1)]) (st' := [.int (F18 19), .ref 40977, .int (F18 19), .ref 40977]) 5 rfl ?_
    obtain ⟨v21, hv21, hD⟩ := Option.bind_eq_some_iff.mp hD
    refine k_ldI rfl rfl hv21 ?_
    refine k_runB (pc' := 72) (loc' := [(0, .ref 40960), (1, .int v1)]) (st' := [.int (v21 + 1), .int (F18 19), .ref 40977]) 2 rfl ?_
    obtain ⟨A22, hA22, hD⟩ := Option.bind_eq_some_iff.mp hD
    refine k_stI 17 rfl rfl (fun _ => rfl) hA22 ?_
    cases hD
    exact k_vret rfl rfl
  · rw [c41_14, cond_false] at hD
    cases hD
    exact k_vret rfl rfl
/-- SleepWorkModel.tellTask()V -/
def d_tellTask (n : Nat) (F : Nat → Int32) (A : Nat → Nat → Int32) (J : Nat → Nat → Int64) : Option (Unit × (Nat → Int32) × (Nat → Nat → Int32) × (Nat → Nat → Int64)) :=
  (m_ld (A 19) 2 (F 19)).bind fun v1 =>
  (d_named n F A J).bind fun (v2, F3, A4, J5) =>
  (d_known n F3 A4 J5 0).bind fun (v6, F7, A8, J9) =>
  (m_st A8 20 12 ((6 * (F 19)) + v1) v6).bind fun A10 =>
  (d_bounded F7 A10 J9 0 999).bind fun (v11, F12, A13, J14) =>
  (m_st A13 21 12 ((6 * (F 19)) + v1) v11).bind fun A15 =>
  (m_st A15 22 12 ((6 * (F 19)) + v1) 0).bind fun A16 =>
  (d_must F12 A16 J14 4).bind fun (_, F18, A19, J20) =>
  cond (g_cnd .le (F18 13) 0)
  ((m_ld (A19 19) 2 (F18 19)).bind fun v22 =>
  (d_notes F18 A19 J20 v2 2 v22).bind fun (_, F24, A25, J26) =>
  (m_ld (A25 19) 2 (F24 19)).bind fun v27 =>
  (m_st A25 19 2 (F24 19) (v27 + 1)).bind fun A28 =>
  some ((), F24, A28, J26))
  (some ((), F18, A19, J20))
theorem t_d_tellTask (ht : ∀ k, t.1 12 k = k_ty 12 k) {n : Nat} {r : Unit} {F' : Nat → Int32} {A' : Nat → Nat → Int32} {J' : Nat → Nat → Int64} : d_tellTask n F A J = some (r, F', A', J') → k_run t lg (d + 4) 167 0 [(0, .ref 40960)] [] (m_h c B F A J) (none, m_h c B F' A' J') := by
  intro hD
  unfold d_tellTask at hD
  refine k_runB (pc' := 15) (loc' := [(0, .ref 40960)]) (st' := [.int (F 19), .ref 40979, .int (6 * (F 19))]) 8 rfl ?_
  obtain ⟨v1, hv1, hD⟩ := Option.bind_eq_some_iff.mp hD
  refine k_ldI rfl rfl hv1 ?_
  refine k_runB (pc' := 19) (loc' := [(0, .ref 40960), (1, .int ((6 * (F 19)) + v1))]) (st' := [.ref 40960]) 3 rfl ?_
  obtain ⟨⟨v2, F3, A4, J5⟩, hv2, hD⟩ := Option.bind_eq_some_iff.mp hD
  dsimp only at hD
  refine k_runC rfl rfl rfl rfl (t_d_named (d := d) ht hv2) ?_
  refine k_runB (pc' := 30) (loc' := [(0, .ref 40960), (1, .int ((6 * (F 19)) + v1)), (2, .int v2)]) (st' := [.int 0, .ref 40960, .int ((6 * (F 19)) + v1), .ref 40980]) 6 rfl ?_
  obtain ⟨⟨v6, F7, A8, J9⟩, hv6, hD⟩ := Option.bind_eq_some_iff.mp hD
  dsimp only at hD
  refine k_runC rfl rfl rfl rfl (t_d_known (d := d) ht hv6) ?_
  obtain ⟨A10, hA10, hD⟩ := Option.bind_eq_some_iff.mp hD
  refine k_stI 20 rfl rfl (fun _ => rfl) hA10 ?_
  refine k_runB (pc' := 44) (loc' := [(0, .ref 40960), (1, .int ((6 * (F 19)) + v1)), (2, .int v2)]) (st' := [.int 999, .int 0, .ref 40960, .int ((6 * (F 19)) + v1), .ref 40981]) 6 rfl ?_
  obtain ⟨⟨v11, F12, A13, J14⟩, hv11, hD⟩ := Option.bind_eq_some_iff.mp hD
  dsimp only at hD
  refine k_runC rfl rfl rfl rfl (t_d_bounded (d := d + 1) ht hv11) ?_
  obtain ⟨A15, hA15, hD⟩ := Option.bind_eq_some_iff.mp hD
  refine k_stI 21 rfl rfl (fun _ => rfl) hA15 ?_
  refine k_runB (pc' := 54) (loc' := [(0, .ref 40960), (1, .int ((6 * (F 19)) + v1)), (2, .int v2)]) (st' := [.int 0, .int ((6 * (F 19)) + v1), .ref 40982]) 4 rfl ?_
  obtain ⟨A16, hA16, hD⟩ := Option.bind_eq_some_iff.mp hD
  refine k_stI 22 rfl rfl (fun _ => rfl) hA16 ?_
  refine k_runB (pc' := 57) (loc' := [(0, .ref 40960), (1, .int ((6 * (F 19)) + v1)), (2, .int v2)]) (st' := [.int 4, .ref 40960]) 2 rfl ?_
  obtain ⟨⟨v17, F18, A19, J20⟩, hv17, hD⟩ := Option.bind_eq_some_iff.mp hD
  dsimp only at hD
  refine k_runC rfl rfl rfl rfl (t_d_must (d := d + 1) ht hv17) ?_
  refine k_runB (pc' := 64) (loc' := [(0, .ref 40960), (1, .int ((6 * (F 19)) + v1)), (2, .int v2)]) (st' := [.int (F18 13)]) 2 rfl ?_
  refine k_if rfl (fun c64_20 => ?_) (fun c64_20 => ?_)
  · rw [c64_20, cond_true] at hD
    refine k_runB (pc' := 79) (loc' := [(0, .ref 40960), (1, .int ((6 * (F 19)) + v1)), (2, .int v2)]) (st' := [.int (F18 19), .ref 40979, .int 2, .int v2, .ref 40960]) 7 rfl ?_
    obtain ⟨v22, hv22, hD⟩ := Option.bind_eq_some_iff.mp hD
    refine k_ldI rfl rfl hv22 ?_
    obtain ⟨⟨v23, F24, A25, J26⟩, hv23, hD⟩ := Option.bind_eq_some_iff.mp hD
    dsimp only at hD
    refine k_runC rfl rfl rfl rfl (t_d_notes (d := d + 3) ht hv23) ?_
    refine k_runB (pc' := 92) (loc' := [(0, .ref 40960), (1, .int ((6 * (F 19)) + v1)), (2, .int v2)]) (st' := [.int (F24 19), .ref 40979, .int (F24 19), .ref 40979]) 5 rfl ?_
    obtain ⟨v27, hv27, hD⟩ := Option.bind_eq_some_iff.mp hD
    refine k_ldI rfl rfl hv27 ?_
    refine k_runB (pc' := 95) (loc' := [(0, .ref 40960), (1, .int ((6 * (F 19)) + v1)), (2, .int v2)]) (st' := [.int (v27 + 1), .int (F24 19), .ref 40979]) 2 rfl ?_
    obtain ⟨A28, hA28, hD⟩ := Option.bind_eq_some_iff.mp hD
    refine k_stI 19 rfl rfl (fun _ => rfl) hA28 ?_
    cases hD
    exact k_vret rfl rfl
  · rw [c64_20, cond_false] at hD
    cases hD
    exact k_vret rfl rfl
def d_tellStep_174 (n : Nat) (F : Nat → Int32) (A : Nat → Nat → Int32) (J : Nat → Nat → Int64) (x2 : Int32) (x4 : Int32) (x5 : Int32) (x6 : Int32) (x7 : Int32) (x8 : Int32) (x9 : Int32) (x10 : Int32) : Option (Unit × (Nat → Int32) × (Nat → Nat → Int32) × (Nat → Nat → Int64)) :=
    (d_must F A J 4).bind fun (_, F56, A57, J58) =>
    cond (g_cnd .gt (F56 13) 0)
    (some ((), F56, A57, J58))
    (cond (g_cnd .ge x2 0)
    ((m_st A57 23 72 x4 x5).bind fun A61 =>
    (m_st A61 24 72 x4 x6).bind fun A62 =>
    (m_st A62 25 72 x4 x7).bind fun A63 =>
    (m_st A63 26 72 x4 x8).bind fun A64 =>
    (m_st A64 27 72 x4 x9).bind fun A65 =>
    (m_st A65 28 72 x4 x10).bind fun A66 =>
    (m_ld (A66 22) 12 ((6 * (F56 19)) + x2)).bind fun v67 =>
    (m_st A66 22 12 ((6 * (F56 19)) + x2) (v67 + 1)).bind fun A68 =>
    some ((), F56, A68, J58))
    (some ((), F56, A57, J58)))
theorem t_d_tellStep_174 (ht : ∀ k, t.1 12 k = k_ty 12 k) {n : Nat}  {F : Nat → Int32} {A : Nat → Nat → Int32} {J : Nat → Nat → Int64} {x2 : Int32} {x4 : Int32} {x5 : Int32} {x6 : Int32} {x7 : Int32} {x8 : Int32} {x9 : Int32} {x10 : Int32} {w : Unit × (Nat → Int32) × (Nat → Nat → Int32) × (Nat → Nat → Int64)} : d_tellStep_174 n F A J x2 x4 x5 x6 x7 x8 x9 x10 = some w → k_run t lg (d + 4) 168 174 [(0, .ref 40960), (2, .int x2), (4, .int x4), (5, .int x5), (6, .int x6), (7, .int x7), (8, .int x8), (9, .int x9), (10, .int x10)] [] (m_h c B F A J) (none, m_h c B w.2.1 w.2.2.1 w.2.2.2) := by
  intro hD
  unfold d_tellStep_174 at hD
  refine k_runB (pc' := 176) (loc' := [(0, .ref 40960), (2, .int x2), (4, .int x4), (5, .int x5), (6, .int x6), (7, .int x7), (8, .int x8), (9, .int x9), (10, .int x10)]) (st' := [.int 4, .ref 40960]) 2 rfl ?_
  obtain ⟨⟨v55, F56, A57, J58⟩, hv55, hD⟩ := Option.bind_eq_some_iff.mp hD
  dsimp only at hD
  refine k_runC rfl rfl rfl rfl (t_d_must (d := d + 1) ht hv55) ?_
  refine k_runB (pc' := 183) (loc' := [(0, .ref 40960), (2, .int x2), (4, .int x4), (5, .int x5), (6, .int x6), (7, .int x7), (8, .int x8), (9, .int x9), (10, .int x10)]) (st' := [.int (F56 13)]) 2 rfl ?_
  refine k_if rfl (fun c183_58 => ?_) (fun c183_58 => ?_)
  · rw [c183_58, cond_true] at hD
    cases hD
    exact k_vret rfl rfl
  · rw [c183_58, cond_false] at hD
    refine k_runB (pc' := 187) (loc' := [(0, .ref 40960), (2, .int x2), (4, .int x4), (5, .int x5), (6, .int x6), (7, .int x7), (8, .int x8), (9, .int x9), (10, .int x10)]) (st' := [.int x2]) 1 rfl ?_
    refine k_if rfl (fun c187_59 => ?_) (fun c187_59 => ?_)
    · rw [c187_59, cond_true] at hD
      refine k_runB (pc' := 199) (loc' := [(0, .ref 40960), (2, .int x2), (4, .int x4), (5, .int x5), (6, .int x6), (7, .int x7), (8, .int x8), (9, .int x9), (10, .int x10)]) (st' := [.int x5, .int x4, .ref 40983]) 4 rfl ?_
      obtain ⟨A61, hA61, hD⟩ := Option.bind_eq_some_iff.mp hD
      refine k_stI 23 rfl rfl (fun _ => rfl) hA61 ?_
      refine k_runB (pc' := 208) (loc' := [(0, .ref 40960), (2, .int x2), (4, .int x4), (5, .int x5), (6, .int x6), (7, .int x7), (8, .int x8), (9, .int x9), (10, .int x10)]) (st' := [.int x6, .int x4, .ref 40984]) 4 rfl ?_
      obtain ⟨A62, hA62, hD⟩ := Option.bind_eq_some_iff.mp hD
      refine k_stI 24 rfl rfl (fun _ => rfl) hA62 ?_
      refine k_runB (pc' := 217) (loc' := [(0, .ref 40960), (2, .int x2), (4, .int x4), (5, .int x5), (6, .int x6), (7, .int x7), (8, .int x8), (9, .int x9), (10, .int x10)]) (st' := [.int x7, .int x4, .ref 40985]) 4 rfl ?_
      obtain ⟨A63, hA63, hD⟩ := Option.bind_eq_some_iff.mp hD
      refine k_stI 25 rfl rfl (fun _ => rfl) hA63 ?_
      refine k_runB (pc' := 226) (loc' := [(0, .ref 40960), (2, .int x2), (4, .int x4), (5, .int x5), (6, .int x6), (7, .int x7), (8, .int x8), (9, .int x9), (10, .int x10)]) (st' := [.int x8, .int x4, .ref 40986]) 4 rfl ?_
      obtain ⟨A64, hA64, hD⟩ := Option.bind_eq_some_iff.mp hD
      refine k_stI 26 rfl rfl (fun _ => rfl) hA64 ?_
      refine k_runB (pc' := 235) (loc' := [(0, .ref 40960), (2, .int x2), (4, .int x4), (5, .int x5), (6, .int x6), (7, .int x7), (8, .int x8), (9, .int x9), (10, .int x10)]) (st' := [.int x9, .int x4, .ref 40987]) 4 rfl ?_
      obtain ⟨A65, hA65, hD⟩ := Option.bind_eq_some_iff.mp hD
      refine k_stI 27 rfl rfl (fun _ => rfl) hA65 ?_
      refine k_runB (pc' := 244) (loc' := [(0, .ref 40960), (2, .int x2), (4, .int x4), (5, .int x5), (6, .int x6), (7, .int x7), (8, .int x8), (9, .int x9), (10, .int x10)]) (st' := [.int x10, .int x4, .ref 40988]) 4 rfl ?_
      obtain ⟨A66, hA66, hD⟩ := Option.bind_eq_some_iff.mp hD
      refine k_stI 28 rfl rfl (fun _ => rfl) hA66 ?_
      refine k_runB (pc' := 259) (loc' := [(0, .ref 40960), (2, .int x2), (4, .int x4), (5, .int x5), (6, .int x6), (7, .int x7), (8, .int x8), (9, .int x9), (10, .int x10)]) (st' := [.int ((6 * (F56 19)) + x2), .ref 40982, .int ((6 * (F56 19)) + x2), .ref 40982]) 9 rfl ?_
      obtain ⟨v67, hv67, hD⟩ := Option.bind_eq_some_iff.mp hD
      refine k_ldI rfl rfl hv67 ?_
      refine k_runB (pc' := 262) (loc' := [(0, .ref 40960), (2, .int x2), (4, .int x4), (5, .int x5), (6, .int x6), (7, .int x7), (8, .int x8), (9, .int x9), (10, .int x10)]) (st' := [.int (v67 + 1), .int ((6 * (F56 19)) + x2), .ref 40982]) 2 rfl ?_
      obtain ⟨A68, hA68, hD⟩ := Option.bind_eq_some_iff.mp hD
      refine k_stI 22 rfl rfl (fun _ => rfl) hA68 ?_
      cases hD
      exact k_vret rfl rfl
    · rw [c187_59, cond_false] at hD
      cases hD
      exact k_vret rfl rfl
def d_tellStep_169 (n : Nat) (F : Nat → Int32) (A : Nat → Nat → Int32) (J : Nat → Nat → Int64) (x2 : Int32) (x4 : Int32) (x5 : Int32) (x6 : Int32) (x7 : Int32) (x8 : Int32) (x9 : Int32) (s1 : Int32) (s2 : Int32) : Option (Unit × (Nat → Int32) × (Nat → Nat → Int32) × (Nat → Nat → Int64)) :=
    (d_bounded F A J s1 s2).bind fun (v69, F70, A71, J72) =>
    d_tellStep_174 n F70 A71 J72 x2 x4 x5 x6 x7 x8 x9 v69
theorem t_d_tellStep_169 (ht : ∀ k, t.1 12 k = k_ty 12 k) {n : Nat}  {F : Nat → Int32} {A : Nat → Nat → Int32} {J : Nat → Nat → Int64} {x2 : Int32} {x4 : Int32} {x5 : Int32} {x6 : Int32} {x7 : Int32} {x8 : Int32} {x9 : Int32} {s1 : Int32} {s2 : Int32} {w : Unit × (Nat → Int32) × (Nat → Nat → Int32) × (Nat → Nat → Int64)} : d_tellStep_169 n F A J x2 x4 x5 x6 x7 x8 x9 s1 s2 = some w → k_run t lg (d + 4) 168 169 [(0, .ref 40960), (2, .int x2), (4, .int x4), (5, .int x5), (6, .int x6), (7, .int x7), (8, .int x8), (9, .int x9)] [.int s2, .int s1, .ref 40960] (m_h c B F A J) (none, m_h c B w.2.1 w.2.2.1 w.2.2.2) := by
  intro hD
  unfold d_tellStep_169 at hD
  obtain ⟨⟨v69, F70, A71, J72⟩, hv69, hD⟩ := Option.bind_eq_some_iff.mp hD
  dsimp only at hD
  refine k_runC rfl rfl rfl rfl (t_d_bounded (d := d + 1) ht hv69) ?_
  refine k_runB (pc' := 174) (loc' := [(0, .ref 40960), (2, .int x2), (4, .int x4), (5, .int x5), (6, .int x6), (7, .int x7), (8, .int x8), (9, .int x9), (10, .int v69)]) (st' := []) 1 rfl ?_
  refine k_wk [0, 2, 4, 5, 6, 7, 8, 9, 10] (loc' := [(0, .ref 40960), (2, .int x2), (4, .int x4), (5, .int x5), (6, .int x6), (7, .int x7), (8, .int x8), (9, .int x9), (10, .int v69)]) rfl rfl ?_
  exact t_d_tellStep_174 ht  hD
def d_tellStep_134 (n : Nat) (F : Nat → Int32) (A : Nat → Nat → Int32) (J : Nat → Nat → Int64) (x2 : Int32) (x3 : Int32) (x4 : Int32) (x5 : Int32) (x6 : Int32) (x7 : Int32) (x8 : Int32) (x9 : Int32) (x10 : Int32) : Option (Unit × (Nat → Int32) × (Nat → Nat → Int32) × (Nat → Nat → Int64)) :=
    cond (g_cnd .ne (F 13) 0)
    (d_tellStep_174 n F A J x2 x4 x5 x6 x7 x8 x9 x10)
    ((d_is F A J 27).bind fun v48 =>
    cond (g_cnd .eq v48 0)
    (d_tellStep_174 n F A J x2 x4 x5 x6 x7 x8 x9 x10)
    ((d_goesOn F A J).bind fun (_, F51, A52, J53) =>
    cond (g_cnd .ge x2 0)
    (d_tellStep_169 n F51 A52 J53 x2 x4 x5 x6 x7 x8 x9 0 (x3 - 1))
    (d_tellStep_169 n F51 A52 J53 x2 x4 x5 x6 x7 x8 x9 0 9999)))
theorem t_d_tellStep_134 (ht : ∀ k, t.1 12 k = k_ty 12 k) {n : Nat}  {F : Nat → Int32} {A : Nat → Nat → Int32} {J : Nat → Nat → Int64} {x2 : Int32} {x3 : Int32} {x4 : Int32} {x5 : Int32} {x6 : Int32} {x7 : Int32} {x8 : Int32} {x9 : Int32} {x10 : Int32} {w : Unit × (Nat → Int32) × (Nat → Nat → Int32) × (Nat → Nat → Int64)} : d_tellStep_134 n F A J x2 x3 x4 x5 x6 x7 x8 x9 x10 = some w → k_run t lg (d + 4) 168 134 [(0, .ref 40960), (2, .int x2), (3, .int x3), (4, .int x4), (5, .int x5), (6, .int x6), (7, .int x7), (8, .int x8), (9, .int x9), (10, .int x10)] [] (m_h c B F A J) (none, m_h c B w.2.1 w.2.2.1 w.2.2.2) := by
  intro hD
  unfold d_tellStep_134 at hD
  refine k_runB (pc' := 138) (loc' := [(0, .ref 40960), (2, .int x2), (3, .int x3), (4, .int x4), (5, .int x5), (6, .int x6), (7, .int x7), (8, .int x8), (9, .int x9), (10, .int x10)]) (st' := [.int (F 13)]) 2 rfl ?_
  refine k_if rfl (fun c138_46 => ?_) (fun c138_46 => ?_)
  · rw [c138_46, cond_true] at hD
    refine k_wk [0, 2, 4, 5, 6, 7, 8, 9, 10] (loc' := [(0, .ref 40960), (2, .int x2), (4, .int x4), (5, .int x5), (6, .int x6), (7, .int x7), (8, .int x8), (9, .int x9), (10, .int x10)]) rfl rfl ?_
    exact t_d_tellStep_174 ht  hD
  · rw [c138_46, cond_false] at hD
    refine k_runB (pc' := 144) (loc' := [(0, .ref 40960), (2, .int x2), (3, .int x3), (4, .int x4), (5, .int x5), (6, .int x6), (7, .int x7), (8, .int x8), (9, .int x9), (10, .int x10)]) (st' := [.int 27, .ref 40960]) 2 rfl ?_
    obtain ⟨v48, hv48, hD⟩ := Option.bind_eq_some_iff.mp hD
    refine k_runC rfl rfl rfl rfl (t_d_is (d := d + 3) hv48) ?_
    refine k_if rfl (fun c147_48 => ?_) (fun c147_48 => ?_)
    · rw [c147_48, cond_true] at hD
      refine k_wk [0, 2, 4, 5, 6, 7, 8, 9, 10] (loc' := [(0, .ref 40960), (2, .int x2), (4, .int x4), (5, .int x5), (6, .int x6), (7, .int x7), (8, .int x8), (9, .int x9), (10, .int x10)]) rfl rfl ?_
      exact t_d_tellStep_174 ht  hD
    · rw [c147_48, cond_false] at hD
      refine k_runB (pc' := 151) (loc' := [(0, .ref 40960), (2, .int x2), (3, .int x3), (4, .int x4), (5, .int x5), (6, .int x6), (7, .int x7), (8, .int x8), (9, .int x9), (10, .int x10)]) (st' := [.ref 40960]) 1 rfl ?_
      obtain ⟨⟨v50, F51, A52, J53⟩, hv50, hD⟩ := Option.bind_eq_some_iff.mp hD
      dsimp only at hD
      refine k_runC rfl rfl rfl rfl (t_d_goesOn (d := d + 2) ht hv50) ?_
      refine k_runB (pc' := 157) (loc' := [(0, .ref 40960), (2, .int x2), (3, .int x3), (4, .int x4), (5, .int x5), (6, .int x6), (7, .int x7), (8, .int x8), (9, .int x9), (10, .int x10)]) (st' := [.int x2, .int 0, .ref 40960]) 3 rfl ?_
      refine k_if rfl (fun c157_53 => ?_) (fun c157_53 => ?_)
      · rw [c157_53, cond_true] at hD
        refine k_runB (pc' := 169) (loc' := [(0, .ref 40960), (2, .int x2), (3, .int x3), (4, .int x4), (5, .int x5), (6, .int x6), (7, .int x7), (8, .int x8), (9, .int x9), (10, .int x10)]) (st' := [.int (x3 - 1), .int 0, .ref 40960]) 3 rfl ?_
        refine k_wk [0, 2, 4, 5, 6, 7, 8, 9] (loc' := [(0, .ref 40960), (2, .int x2), (4, .int x4), (5, .int x5), (6, .int x6), (7, .int x7), (8, .int x8), (9, .int x9)]) rfl rfl ?_
        exact t_d_tellStep_169 ht  hD
      · rw [c157_53, cond_false] at hD
        refine k_runB (pc' := 169) (loc' := [(0, .ref 40960), (2, .int x2), (3, .int x3), (4, .int x4), (5, .int x5), (6, .int x6), (7, .int x7), (8, .int x8), (9, .int x9), (10, .int x10)]) (st' := [.int 9999, .int 0, .ref 40960]) 2 rfl ?_
        refine k_wk [0, 2, 4, 5, 6, 7, 8, 9] (loc' := [(0, .ref 40960), (2, .int x2), (4, .int x4), (5, .int x5), (6, .int x6), (7, .int x7), (8, .int x8), (9, .int x9)]) rfl rfl ?_
        exact t_d_tellStep_169 ht  hD
def d_tellStep_59 (n : Nat) (F : Nat → Int32) (A : Nat → Nat → Int32) (J : Nat → Nat → Int64) (x2 : Int32) (x3 : Int32) (s0 : Int32) (s1 : Int32) (s2 : Int32) : Option (Unit × (Nat → Int32) × (Nat → Nat → Int32) × (Nat → Nat → Int64)) :=
    (d_bounded F A J 1 120).bind fun (v14, F15, A16, J17) =>
    (d_bounded F15 A16 J17 0 99).bind fun (v18, F19, A20, J21) =>
    (d_bounded F19 A20 J21 0 99).bind fun (v22, F23, A24, J25) =>
    (d_bounded F23 A24 J25 0 99).bind fun (v26, F27, A28, J29) =>
    cond (g_cnd .ne (F27 13) 0)
    (d_tellStep_134 n F27 A28 J29 x2 x3 ((s0 * (s1 + s2)) + x3) v14 v18 v22 v26 ((-1)) ((-1)))
    ((d_is F27 A28 J29 26).bind fun v31 =>
    cond (g_cnd .eq v31 0)
    (d_tellStep_134 n F27 A28 J29 x2 x3 ((s0 * (s1 + s2)) + x3) v14 v18 v22 v26 ((-1)) ((-1)))
    ((d_goesOn F27 A28 J29).bind fun (_, F34, A35, J36) =>
    (d_known n F34 A35 J36 1).bind fun (v37, F38, A39, J40) =>
    d_tellStep_134 n F38 A39 J40 x2 x3 ((s0 * (s1 + s2)) + x3) v14 v18 v22 v26 v37 ((-1))))
theorem t_d_tellStep_59 (ht : ∀ k, t.1 12 k = k_ty 12 k) {n : Nat}  {F : Nat → Int32} {A : Nat → Nat → Int32} {J : Nat → Nat → Int64} {x2 : Int32} {x3 : Int32} {s0 : Int32} {s1 : Int32} {s2 : Int32} {w : Unit × (Nat → Int32) × (Nat → Nat → Int32) × (Nat → Nat → Int64)} : d_tellStep_59 n F A J x2 x3 s0 s1 s2 = some w → k_run t lg (d + 4) 168 59 [(0, .ref 40960), (2, .int x2), (3, .int x3)] [.int s2, .int s1, .int s0] (m_h c B F A J) (none, m_h c B w.2.1 w.2.2.1 w.2.2.2) := by
  intro hD
  unfold d_tellStep_59 at hD
  refine k_runB (pc' := 69) (loc' := [(0, .ref 40960), (2, .int x2), (3, .int x3), (4, .int ((s0 * (s1 + s2)) + x3))]) (st' := [.int 120, .int 1, .ref 40960]) 8 rfl ?_
  obtain ⟨⟨v14, F15, A16, J17⟩, hv14, hD⟩ := Option.bind_eq_some_iff.mp hD
  dsimp only at hD
  refine k_runC rfl rfl rfl rfl (t_d_bounded (d := d + 1) ht hv14) ?_
  refine k_runB (pc' := 78) (loc' := [(0, .ref 40960), (2, .int x2), (3, .int x3), (4, .int ((s0 * (s1 + s2)) + x3)), (5, .int v14)]) (st' := [.int 99, .int 0, .ref 40960]) 4 rfl ?_
  obtain ⟨⟨v18, F19, A20, J21⟩, hv18, hD⟩ := Option.bind_eq_some_iff.mp hD
  dsimp only at hD
  refine k_runC rfl rfl rfl rfl (t_d_bounded (d := d + 1) ht hv18) ?_
  refine k_runB (pc' := 87) (loc' := [(0, .ref 40960), (2, .int x2), (3, .int x3), (4, .int ((s0 * (s1 + s2)) + x3)), (5, .int v14), (6, .int v18)]) (st' := [.int 99, .int 0, .ref 40960]) 4 rfl ?_
  obtain ⟨⟨v22, F23, A24, J25⟩, hv22, hD⟩ := Option.bind_eq_some_iff.mp hD
  dsimp only at hD
  refine k_runC rfl rfl rfl rfl (t_d_bounded (d := d + 1) ht hv22) ?_
  refine k_runB (pc' := 96) (loc' := [(0, .ref 40960), (2, .int x2), (3, .int x3), (4, .int ((s0 * (s1 + s2)) + x3)), (5, .int v14), (6, .int v18), (7, .int v22)]) (st' := [.int 99, .int 0, .ref 40960]) 4 rfl ?_
  obtain ⟨⟨v26, F27, A28, J29⟩, hv26, hD⟩ := Option.bind_eq_some_iff.mp hD
  dsimp only at hD
  refine k_runC rfl rfl rfl rfl (t_d_bounded (d := d + 1) ht hv26) ?_
  refine k_runB (pc' := 111) (loc' := [(0, .ref 40960), (2, .int x2), (3, .int x3), (4, .int ((s0 * (s1 + s2)) + x3)), (5, .int v14), (6, .int v18), (7, .int v22), (8, .int v26), (9, .int ((-1))), (10, .int ((-1)))]) (st' := [.int (F27 13)]) 7 rfl ?_
  refine k_if rfl (fun c111_29 => ?_) (fun c111_29 => ?_)
  · rw [c111_29, cond_true] at hD
    refine k_wk [0, 2, 3, 4, 5, 6, 7, 8, 9, 10] (loc' := [(0, .ref 40960), (2, .int x2), (3, .int x3), (4, .int ((s0 * (s1 + s2)) + x3)), (5, .int v14), (6, .int v18), (7, .int v22), (8, .int v26), (9, .int ((-1))), (10, .int ((-1)))]) rfl rfl ?_
    exact t_d_tellStep_134 ht  hD
  · rw [c111_29, cond_false] at hD
    refine k_runB (pc' := 117) (loc' := [(0, .ref 40960), (2, .int x2), (3, .int x3), (4, .int ((s0 * (s1 + s2)) + x3)), (5, .int v14), (6, .int v18), (7, .int v22), (8, .int v26), (9, .int ((-1))), (10, .int ((-1)))]) (st' := [.int 26, .ref 40960]) 2 rfl ?_
    obtain ⟨v31, hv31, hD⟩ := Option.bind_eq_some_iff.mp hD
    refine k_runC rfl rfl rfl rfl (t_d_is (d := d + 3) hv31) ?_
    refine k_if rfl (fun c120_31 => ?_) (fun c120_31 => ?_)
    · rw [c120_31, cond_true] at hD
      refine k_wk [0, 2, 3, 4, 5, 6, 7, 8, 9, 10] (loc' := [(0, .ref 40960), (2, .int x2), (3, .int x3), (4, .int ((s0 * (s1 + s2)) + x3)), (5, .int v14), (6, .int v18), (7, .int v22), (8, .int v26), (9, .int ((-1))), (10, .int ((-1)))]) rfl rfl ?_
      exact t_d_tellStep_134 ht  hD
    · rw [c120_31, cond_false] at hD
      refine k_runB (pc' := 124) (loc' := [(0, .ref 40960), (2, .int x2), (3, .int x3), (4, .int ((s0 * (s1 + s2)) + x3)), (5, .int v14), (6, .int v18), (7, .int v22), (8, .int v26), (9, .int ((-1))), (10, .int ((-1)))]) (st' := [.ref 40960]) 1 rfl ?_
      obtain ⟨⟨v33, F34, A35, J36⟩, hv33, hD⟩ := Option.bind_eq_some_iff.mp hD
      dsimp only at hD
      refine k_runC rfl rfl rfl rfl (t_d_goesOn (d := d + 2) ht hv33) ?_
      refine k_runB (pc' := 129) (loc' := [(0, .ref 40960), (2, .int x2), (3, .int x3), (4, .int ((s0 * (s1 + s2)) + x3)), (5, .int v14), (6, .int v18), (7, .int v22), (8, .int v26), (9, .int ((-1))), (10, .int ((-1)))]) (st' := [.int 1, .ref 40960]) 2 rfl ?_
      obtain ⟨⟨v37, F38, A39, J40⟩, hv37, hD⟩ := Option.bind_eq_some_iff.mp hD
      dsimp only at hD
      refine k_runC rfl rfl rfl rfl (t_d_known (d := d) ht hv37) ?_
      refine k_runB (pc' := 134) (loc' := [(0, .ref 40960), (2, .int x2), (3, .int x3), (4, .int ((s0 * (s1 + s2)) + x3)), (5, .int v14), (6, .int v18), (7, .int v22), (8, .int v26), (9, .int v37), (10, .int ((-1)))]) (st' := []) 1 rfl ?_
      refine k_wk [0, 2, 3, 4, 5, 6, 7, 8, 9, 10] (loc' := [(0, .ref 40960), (2, .int x2), (3, .int x3), (4, .int ((s0 * (s1 + s2)) + x3)), (5, .int v14), (6, .int v18), (7, .int v22), (8, .int v26), (9, .int v37), (10, .int ((-1)))]) rfl rfl ?_
      exact t_d_tellStep_134 ht  hD
def d_tellStep_41 (n : Nat) (F : Nat → Int32) (A : Nat → Nat → Int32) (J : Nat → Nat → Int64) (x2 : Int32) (x3 : Int32) : Option (Unit × (Nat → Int32) × (Nat → Nat → Int32) × (Nat → Nat → Int64)) :=
    cond (g_cnd .ge x2 0)
    (d_tellStep_59 n F A J x2 x3 6 (6 * (F 19)) x2)
    (d_tellStep_59 n F A J x2 x3 6 (6 * (F 19)) 0)
theorem t_d_tellStep_41 (ht : ∀ k, t.1 12 k = k_ty 12 k) {n : Nat}  {F : Nat → Int32} {A : Nat → Nat → Int32} {J : Nat → Nat → Int64} {x2 : Int32} {x3 : Int32} {w : Unit × (Nat → Int32) × (Nat → Nat → Int32) × (Nat → Nat → Int64)} : d_tellStep_41 n F A J x2 x3 = some w → k_run t lg (d + 4) 168 41 [(0, .ref 40960), (2, .int x2), (3, .int x3)] [] (m_h c B F A J) (none, m_h c B w.2.1 w.2.2.1 w.2.2.2) := by
  intro hD
  unfold d_tellStep_41 at hD
  refine k_runB (pc' := 51) (loc' := [(0, .ref 40960), (2, .int x2), (3, .int x3)]) (st' := [.int x2, .int (6 * (F 19)), .int 6]) 6 rfl ?_
  refine k_if rfl (fun c51_12 => ?_) (fun c51_12 => ?_)
  · rw [c51_12, cond_true] at hD
    refine k_runB (pc' := 59) (loc' := [(0, .ref 40960), (2, .int x2), (3, .int x3)]) (st' := [.int x2, .int (6 * (F 19)), .int 6]) 1 rfl ?_
    refine k_wk [0, 2, 3] (loc' := [(0, .ref 40960), (2, .int x2), (3, .int x3)]) rfl rfl ?_
    exact t_d_tellStep_59 ht  hD
  · rw [c51_12, cond_false] at hD
    refine k_runB (pc' := 59) (loc' := [(0, .ref 40960), (2, .int x2), (3, .int x3)]) (st' := [.int 0, .int (6 * (F 19)), .int 6]) 2 rfl ?_
    refine k_wk [0, 2, 3] (loc' := [(0, .ref 40960), (2, .int x2), (3, .int x3)]) rfl rfl ?_
    exact t_d_tellStep_59 ht  hD
def d_tellStep_28 (n : Nat) (F : Nat → Int32) (A : Nat → Nat → Int32) (J : Nat → Nat → Int64) (x1 : Int32) (x2 : Int32) (s0 : Int32) : Option (Unit × (Nat → Int32) × (Nat → Nat → Int32) × (Nat → Nat → Int64)) :=
    cond (g_cnd .ne s0 6)
    (d_tellStep_41 n F A J x2 s0)
    ((d_failAt F A J 2 x1).bind fun (_, F43, A44, J45) =>
    cond (g_cnd .ge x2 0)
    (d_tellStep_59 n F43 A44 J45 x2 s0 6 (6 * (F43 19)) x2)
    (d_tellStep_59 n F43 A44 J45 x2 s0 6 (6 * (F43 19)) 0))
theorem t_d_tellStep_28 (ht : ∀ k, t.1 12 k = k_ty 12 k) {n : Nat}  {F : Nat → Int32} {A : Nat → Nat → Int32} {J : Nat → Nat → Int64} {x1 : Int32} {x2 : Int32} {s0 : Int32} {w : Unit × (Nat → Int32) × (Nat → Nat → Int32) × (Nat → Nat → Int64)} : d_tellStep_28 n F A J x1 x2 s0 = some w → k_run t lg (d + 4) 168 28 [(0, .ref 40960), (1, .int x1), (2, .int x2)] [.int s0] (m_h c B F A J) (none, m_h c B w.2.1 w.2.2.1 w.2.2.2) := by
  intro hD
  unfold d_tellStep_28 at hD
  refine k_runB (pc' := 32) (loc' := [(0, .ref 40960), (1, .int x1), (2, .int x2), (3, .int s0)]) (st' := [.int 6, .int s0]) 3 rfl ?_
  refine k_ic rfl (fun c32_40 => ?_) (fun c32_40 => ?_)
  · rw [c32_40, cond_true] at hD
    refine k_wk [0, 2, 3] (loc' := [(0, .ref 40960), (2, .int x2), (3, .int s0)]) rfl rfl ?_
    exact t_d_tellStep_41 ht  hD
  · rw [c32_40, cond_false] at hD
    refine k_runB (pc' := 38) (loc' := [(0, .ref 40960), (1, .int x1), (2, .int x2), (3, .int s0)]) (st' := [.int x1, .int 2, .ref 40960]) 3 rfl ?_
    obtain ⟨⟨v42, F43, A44, J45⟩, hv42, hD⟩ := Option.bind_eq_some_iff.mp hD
    dsimp only at hD
    refine k_runC rfl rfl rfl rfl (t_d_failAt (d := d + 3) ht hv42) ?_
    refine k_runB (pc' := 51) (loc' := [(0, .ref 40960), (1, .int x1), (2, .int x2), (3, .int s0)]) (st' := [.int x2, .int (6 * (F43 19)), .int 6]) 6 rfl ?_
    refine k_if rfl (fun c51_45 => ?_) (fun c51_45 => ?_)
    · rw [c51_45, cond_true] at hD
      refine k_runB (pc' := 59) (loc' := [(0, .ref 40960), (1, .int x1), (2, .int x2), (3, .int s0)]) (st' := [.int x2, .int (6 * (F43 19)), .int 6]) 1 rfl ?_
      refine k_wk [0, 2, 3] (loc' := [(0, .ref 40960), (2, .int x2), (3, .int s0)]) rfl rfl ?_
      exact t_d_tellStep_59 ht  hD
    · rw [c51_45, cond_false] at hD
      refine k_runB (pc' := 59) (loc' := [(0, .ref 40960), (1, .int x1), (2, .int x2), (3, .int s0)]) (st' := [.int 0, .int (6 * (F43 19)), .int 6]) 2 rfl ?_
      refine k_wk [0, 2, 3] (loc' := [(0, .ref 40960), (2, .int x2), (3, .int s0)]) rfl rfl ?_
      exact t_d_tellStep_59 ht  hD
/-- SleepWorkModel.tellStep(I)V -/
def d_tellStep (n : Nat) (F : Nat → Int32) (A : Nat → Nat → Int32) (J : Nat → Nat → Int64) (x1 : Int32) : Option (Unit × (Nat → Int32) × (Nat → Nat → Int32) × (Nat → Nat → Int64)) :=
  (d_known n F A J 2).bind fun (v1, F2, A3, J4) =>
  cond (g_cnd .ge v1 0)
  ((m_ld (A3 22) 12 ((6 * (F2 19)) + v1)).bind fun v6 =>
  cond (g_cnd .ne v6 6)
  (d_tellStep_41 n F2 A3 J4 v1 v6)
  ((d_failAt F2 A3 J4 2 x1).bind fun (_, F9, A10, J11) =>
  d_tellStep_59 n F9 A10 J11 v1 v6 6 (6 * (F9 19)) v1))
  (d_tellStep_28 n F2 A3 J4 x1 v1 0)
theorem t_d_tellStep (ht : ∀ k, t.1 12 k = k_ty 12 k) {n : Nat} {x1 : Int32} {r : Unit} {F' : Nat → Int32} {A' : Nat → Nat → Int32} {J' : Nat → Nat → Int64} : d_tellStep n F A J x1 = some (r, F', A', J') → k_run t lg (d + 4) 168 0 [(0, .ref 40960), (1, .int x1)] [] (m_h c B F A J) (none, m_h c B F' A' J') := by
  intro hD
  unfold d_tellStep at hD
  refine k_runB (pc' := 2) (loc' := [(0, .ref 40960), (1, .int x1)]) (st' := [.int 2, .ref 40960]) 2 rfl ?_
  obtain ⟨⟨v1, F2, A3, J4⟩, hv1, hD⟩ := Option.bind_eq_some_iff.mp hD
  dsimp only at hD
  refine k_runC rfl rfl rfl rfl (t_d_known (d := d) ht hv1) ?_
  refine k_runB (pc' := 7) (loc' := [(0, .ref 40960), (1, .int x1), (2, .int v1)]) (st' := [.int v1]) 2 rfl ?_
  refine k_if rfl (fun c7_4 => ?_) (fun c7_4 => ?_)
  · rw [c7_4, cond_true] at hD
    refine k_runB (pc' := 27) (loc' := [(0, .ref 40960), (1, .int x1), (2, .int v1)]) (st' := [.int ((6 * (F2 19)) + v1), .ref 40982]) 8 rfl ?_
    obtain ⟨v6, hv6, hD⟩ := Option.bind_eq_some_iff.mp hD
    refine k_ldI rfl rfl hv6 ?_
    refine k_runB (pc' := 32) (loc' := [(0, .ref 40960), (1, .int x1), (2, .int v1), (3, .int v6)]) (st' := [.int 6, .int v6]) 3 rfl ?_
    refine k_ic rfl (fun c32_6 => ?_) (fun c32_6 => ?_)
    · rw [c32_6, cond_true] at hD
      refine k_wk [0, 2, 3] (loc' := [(0, .ref 40960), (2, .int v1), (3, .int v6)]) rfl rfl ?_
      exact t_d_tellStep_41 ht  hD
    · rw [c32_6, cond_false] at hD
      refine k_runB (pc' := 38) (loc' := [(0, .ref 40960), (1, .int x1), (2, .int v1), (3, .int v6)]) (st' := [.int x1, .int 2, .ref 40960]) 3 rfl ?_
      obtain ⟨⟨v8, F9, A10, J11⟩, hv8, hD⟩ := Option.bind_eq_some_iff.mp hD
      dsimp only at hD
      refine k_runC rfl rfl rfl rfl (t_d_failAt (d := d + 3) ht hv8) ?_
      refine k_runB (pc' := 51) (loc' := [(0, .ref 40960), (1, .int x1), (2, .int v1), (3, .int v6)]) (st' := [.int v1, .int (6 * (F9 19)), .int 6]) 6 rfl ?_
      refine k_if rfl (fun _ => ?_) (fun c9 => by rw [c7_4] at c9; cases c9)
      refine k_runB (pc' := 59) (loc' := [(0, .ref 40960), (1, .int x1), (2, .int v1), (3, .int v6)]) (st' := [.int v1, .int (6 * (F9 19)), .int 6]) 1 rfl ?_
      refine k_wk [0, 2, 3] (loc' := [(0, .ref 40960), (2, .int v1), (3, .int v6)]) rfl rfl ?_
      exact t_d_tellStep_59 ht  hD
  · rw [c7_4, cond_false] at hD
    refine k_runB (pc' := 28) (loc' := [(0, .ref 40960), (1, .int x1), (2, .int v1)]) (st' := [.int 0]) 2 rfl ?_
    refine k_wk [0, 1, 2] (loc' := [(0, .ref 40960), (1, .int x1), (2, .int v1)]) rfl rfl ?_
    exact t_d_tellStep_28 ht  hD
def d_tellMan_118 (n : Nat) (F : Nat → Int32) (A : Nat → Nat → Int32) (J : Nat → Nat → Int64) (x2 : Int32) : Option (Unit × (Nat → Int32) × (Nat → Nat → Int32) × (Nat → Nat → Int64)) :=
    (d_must F A J 4).bind fun (_, F28, A29, J30) =>
    cond (g_cnd .le (F28 13) 0)
    ((m_ld (A29 29) 2 (F28 19)).bind fun v32 =>
    (d_notes F28 A29 J30 x2 3 v32).bind fun (_, F34, A35, J36) =>
    (m_ld (A35 29) 2 (F34 19)).bind fun v37 =>
    (m_st A35 29 2 (F34 19) (v37 + 1)).bind fun A38 =>
    some ((), F34, A38, J36))
    (some ((), F28, A29, J30))
theorem t_d_tellMan_118 (ht : ∀ k, t.1 12 k = k_ty 12 k) {n : Nat}  {F : Nat → Int32} {A : Nat → Nat → Int32} {J : Nat → Nat → Int64} {x2 : Int32} {w : Unit × (Nat → Int32) × (Nat → Nat → Int32) × (Nat → Nat → Int64)} : d_tellMan_118 n F A J x2 = some w → k_run t lg (d + 4) 169 118 [(0, .ref 40960), (2, .int x2)] [] (m_h c B F A J) (none, m_h c B w.2.1 w.2.2.1 w.2.2.2) := by
  intro hD
  unfold d_tellMan_118 at hD
  refine k_runB (pc' := 120) (loc' := [(0, .ref 40960), (2, .int x2)]) (st' := [.int 4, .ref 40960]) 2 rfl ?_
  obtain ⟨⟨v27, F28, A29, J30⟩, hv27, hD⟩ := Option.bind_eq_some_iff.mp hD
  dsimp only at hD
  refine k_runC rfl rfl rfl rfl (t_d_must (d := d + 1) ht hv27) ?_
  refine k_runB (pc' := 127) (loc' := [(0, .ref 40960), (2, .int x2)]) (st' := [.int (F28 13)]) 2 rfl ?_
  refine k_if rfl (fun c127_30 => ?_) (fun c127_30 => ?_)
  · rw [c127_30, cond_true] at hD
    refine k_runB (pc' := 142) (loc' := [(0, .ref 40960), (2, .int x2)]) (st' := [.int (F28 19), .ref 40989, .int 3, .int x2, .ref 40960]) 7 rfl ?_
    obtain ⟨v32, hv32, hD⟩ := Option.bind_eq_some_iff.mp hD
    refine k_ldI rfl rfl hv32 ?_
    obtain ⟨⟨v33, F34, A35, J36⟩, hv33, hD⟩ := Option.bind_eq_some_iff.mp hD
    dsimp only at hD
    refine k_runC rfl rfl rfl rfl (t_d_notes (d := d + 3) ht hv33) ?_
    refine k_runB (pc' := 155) (loc' := [(0, .ref 40960), (2, .int x2)]) (st' := [.int (F34 19), .ref 40989, .int (F34 19), .ref 40989]) 5 rfl ?_
    obtain ⟨v37, hv37, hD⟩ := Option.bind_eq_some_iff.mp hD
    refine k_ldI rfl rfl hv37 ?_
    refine k_runB (pc' := 158) (loc' := [(0, .ref 40960), (2, .int x2)]) (st' := [.int (v37 + 1), .int (F34 19), .ref 40989]) 2 rfl ?_
    obtain ⟨A38, hA38, hD⟩ := Option.bind_eq_some_iff.mp hD
    refine k_stI 29 rfl rfl (fun _ => rfl) hA38 ?_
    cases hD
    exact k_vret rfl rfl
  · rw [c127_30, cond_false] at hD
    cases hD
    exact k_vret rfl rfl
def d_tellMan_114 (n : Nat) (F : Nat → Int32) (A : Nat → Nat → Int32) (J : Nat → Nat → Int64) (x2 : Int32) (s1 : Int32) (s3 : Int32) (s4 : Int32) : Option (Unit × (Nat → Int32) × (Nat → Nat → Int32) × (Nat → Nat → Int64)) :=
    (d_bounded F A J s3 s4).bind fun (v39, F40, A41, J42) =>
    (m_st A41 32 12 s1 v39).bind fun A43 =>
    (d_must F40 A43 J42 4).bind fun (_, F45, A46, J47) =>
    cond (g_cnd .le (F45 13) 0)
    ((m_ld (A46 29) 2 (F45 19)).bind fun v49 =>
    (d_notes F45 A46 J47 x2 3 v49).bind fun (_, F51, A52, J53) =>
    (m_ld (A52 29) 2 (F51 19)).bind fun v54 =>
    (m_st A52 29 2 (F51 19) (v54 + 1)).bind fun A55 =>
    some ((), F51, A55, J53))
    (some ((), F45, A46, J47))
theorem t_d_tellMan_114 (ht : ∀ k, t.1 12 k = k_ty 12 k) {n : Nat}  {F : Nat → Int32} {A : Nat → Nat → Int32} {J : Nat → Nat → Int64} {x2 : Int32} {s1 : Int32} {s3 : Int32} {s4 : Int32} {w : Unit × (Nat → Int32) × (Nat → Nat → Int32) × (Nat → Nat → Int64)} : d_tellMan_114 n F A J x2 s1 s3 s4 = some w → k_run t lg (d + 4) 169 114 [(0, .ref 40960), (2, .int x2)] [.int s4, .int s3, .ref 40960, .int s1, .ref 40992] (m_h c B F A J) (none, m_h c B w.2.1 w.2.2.1 w.2.2.2) := by
  intro hD
  unfold d_tellMan_114 at hD
  obtain ⟨⟨v39, F40, A41, J42⟩, hv39, hD⟩ := Option.bind_eq_some_iff.mp hD
  dsimp only at hD
  refine k_runC rfl rfl rfl rfl (t_d_bounded (d := d + 1) ht hv39) ?_
  obtain ⟨A43, hA43, hD⟩ := Option.bind_eq_some_iff.mp hD
  refine k_stI 32 rfl rfl (fun _ => rfl) hA43 ?_
  refine k_runB (pc' := 120) (loc' := [(0, .ref 40960), (2, .int x2)]) (st' := [.int 4, .ref 40960]) 2 rfl ?_
  obtain ⟨⟨v44, F45, A46, J47⟩, hv44, hD⟩ := Option.bind_eq_some_iff.mp hD
  dsimp only at hD
  refine k_runC rfl rfl rfl rfl (t_d_must (d := d + 1) ht hv44) ?_
  refine k_runB (pc' := 127) (loc' := [(0, .ref 40960), (2, .int x2)]) (st' := [.int (F45 13)]) 2 rfl ?_
  refine k_if rfl (fun c127_47 => ?_) (fun c127_47 => ?_)
  · rw [c127_47, cond_true] at hD
    refine k_runB (pc' := 142) (loc' := [(0, .ref 40960), (2, .int x2)]) (st' := [.int (F45 19), .ref 40989, .int 3, .int x2, .ref 40960]) 7 rfl ?_
    obtain ⟨v49, hv49, hD⟩ := Option.bind_eq_some_iff.mp hD
    refine k_ldI rfl rfl hv49 ?_
    obtain ⟨⟨v50, F51, A52, J53⟩, hv50, hD⟩ := Option.bind_eq_some_iff.mp hD
    dsimp only at hD
    refine k_runC rfl rfl rfl rfl (t_d_notes (d := d + 3) ht hv50) ?_
    refine k_runB (pc' := 155) (loc' := [(0, .ref 40960), (2, .int x2)]) (st' := [.int (F51 19), .ref 40989, .int (F51 19), .ref 40989]) 5 rfl ?_
    obtain ⟨v54, hv54, hD⟩ := Option.bind_eq_some_iff.mp hD
    refine k_ldI rfl rfl hv54 ?_
    refine k_runB (pc' := 158) (loc' := [(0, .ref 40960), (2, .int x2)]) (st' := [.int (v54 + 1), .int (F51 19), .ref 40989]) 2 rfl ?_
    obtain ⟨A55, hA55, hD⟩ := Option.bind_eq_some_iff.mp hD
    refine k_stI 29 rfl rfl (fun _ => rfl) hA55 ?_
    cases hD
    exact k_vret rfl rfl
  · rw [c127_47, cond_false] at hD
    cases hD
    exact k_vret rfl rfl
/-- SleepWorkModel.tellMan()V -/
def d_tellMan (n : Nat) (F : Nat → Int32) (A : Nat → Nat → Int32) (J : Nat → Nat → Int64) : Option (Unit × (Nat → Int32) × (Nat → Nat → Int32) × (Nat → Nat → Int64)) :=
  (m_ld (A 29) 2 (F 19)).bind fun v1 =>
  (d_named n F A J).bind fun (v2, F3, A4, J5) =>
  (d_known n F3 A4 J5 0).bind fun (v6, F7, A8, J9) =>
  (m_st A8 30 12 ((6 * (F 19)) + v1) v6).bind fun A10 =>
  (m_st A10 31 12 ((6 * (F 19)) + v1) ((-1))).bind fun A11 =>
  (m_st A11 32 12 ((6 * (F 19)) + v1) ((-1))).bind fun A12 =>
  cond (g_cnd .ne (F7 13) 0)
  (d_tellMan_118 n F7 A12 J9 v2)
  ((d_is F7 A12 J9 29).bind fun v14 =>
  cond (g_cnd .eq v14 0)
  (d_tellMan_118 n F7 A12 J9 v2)
  ((d_goesOn F7 A12 J9).bind fun (_, F17, A18, J19) =>
  (d_known n F17 A18 J19 2).bind fun (v20, F21, A22, J23) =>
  (m_st A22 31 12 ((6 * (F 19)) + v1) v20).bind fun A24 =>
  cond (g_cnd .ge v20 0)
  ((m_ld (A24 22) 12 ((6 * (F21 19)) + v20)).bind fun v26 =>
  d_tellMan_114 n F21 A24 J23 v2 ((6 * (F 19)) + v1) 0 (v26 - 1))
  (d_tellMan_114 n F21 A24 J23 v2 ((6 * (F 19)) + v1) 0 9999)))
theorem t_d_tellMan (ht : ∀ k, t.1 12 k = k_ty 12 k) {n : Nat} {r : Unit} {F' : Nat → Int32} {A' : Nat → Nat → Int32} {J' : Nat → Nat → Int64} : d_tellMan n F A J = some (r, F', A', J') → k_run t lg (d + 4) 169 0 [(0, .ref 40960)] [] (m_h c B F A J) (none, m_h c B F' A' J') := by
  intro hD
  unfold d_tellMan at hD
  refine k_runB (pc' := 15) (loc' := [(0, .ref 40960)]) (st' := [.int (F 19), .ref 40989, .int (6 * (F 19))]) 8 rfl ?_
  obtain ⟨v1, hv1, hD⟩ := Option.bind_eq_some_iff.mp hD
  refine k_ldI rfl rfl hv1 ?_
  refine k_runB (pc' := 19) (loc' := [(0, .ref 40960), (1, .int ((6 * (F 19)) + v1))]) (st' := [.ref 40960]) 3 rfl ?_
  obtain ⟨⟨v2, F3, A4, J5⟩, hv2, hD⟩ := Option.bind_eq_some_iff.mp hD
  dsimp only at hD
  refine k_runC rfl rfl rfl rfl (t_d_named (d := d) ht hv2) ?_
  refine k_runB (pc' := 30) (loc' := [(0, .ref 40960), (1, .int ((6 * (F 19)) + v1)), (2, .int v2)]) (st' := [.int 0, .ref 40960, .int ((6 * (F 19)) + v1), .ref 40990]) 6 rfl ?_
  obtain ⟨⟨v6, F7, A8, J9⟩, hv6, hD⟩ := Option.bind_eq_some_iff.mp hD
  dsimp only at hD
  refine k_runC rfl rfl rfl rfl (t_d_known (d := d) ht hv6) ?_
  obtain ⟨A10, hA10, hD⟩ := Option.bind_eq_some_iff.mp hD
  refine k_stI 30 rfl rfl (fun _ => rfl) hA10 ?_
  refine k_runB (pc' := 40) (loc' := [(0, .ref 40960), (1, .int ((6 * (F 19)) + v1)), (2, .int v2)]) (st' := [.int ((-1)), .int ((6 * (F 19)) + v1), .ref 40991]) 4 rfl ?_
  obtain ⟨A11, hA11, hD⟩ := Option.bind_eq_some_iff.mp hD
  refine k_stI 31 rfl rfl (fun _ => rfl) hA11 ?_
  refine k_runB (pc' := 47) (loc' := [(0, .ref 40960), (1, .int ((6 * (F 19)) + v1)), (2, .int v2)]) (st' := [.int ((-1)), .int ((6 * (F 19)) + v1), .ref 40992]) 4 rfl ?_
  obtain ⟨A12, hA12, hD⟩ := Option.bind_eq_some_iff.mp hD
  refine k_stI 32 rfl rfl (fun _ => rfl) hA12 ?_
  refine k_runB (pc' := 52) (loc' := [(0, .ref 40960), (1, .int ((6 * (F 19)) + v1)), (2, .int v2)]) (st' := [.int (F7 13)]) 2 rfl ?_
  refine k_if rfl (fun c52_12 => ?_) (fun c52_12 => ?_)
  · rw [c52_12, cond_true] at hD
    refine k_wk [0, 2] (loc' := [(0, .ref 40960), (2, .int v2)]) rfl rfl ?_
    exact t_d_tellMan_118 ht  hD
  · rw [c52_12, cond_false] at hD
    refine k_runB (pc' := 58) (loc' := [(0, .ref 40960), (1, .int ((6 * (F 19)) + v1)), (2, .int v2)]) (st' := [.int 29, .ref 40960]) 2 rfl ?_
    obtain ⟨v14, hv14, hD⟩ := Option.bind_eq_some_iff.mp hD
    refine k_runC rfl rfl rfl rfl (t_d_is (d := d + 3) hv14) ?_
    refine k_if rfl (fun c61_14 => ?_) (fun c61_14 => ?_)
    · rw [c61_14, cond_true] at hD
      refine k_wk [0, 2] (loc' := [(0, .ref 40960), (2, .int v2)]) rfl rfl ?_
      exact t_d_tellMan_118 ht  hD
    · rw [c61_14, cond_false] at hD
      refine k_runB (pc' := 65) (loc' := [(0, .ref 40960), (1, .int ((6 * (F 19)) + v1)), (2, .int v2)]) (st' := [.ref 40960]) 1 rfl ?_
      obtain ⟨⟨v16, F17, A18, J19⟩, hv16, hD⟩ := Option.bind_eq_some_iff.mp hD
      dsimp only at hD
      refine k_runC rfl rfl rfl rfl (t_d_goesOn (d := d + 2) ht hv16) ?_
      refine k_runB (pc' := 70) (loc' := [(0, .ref 40960), (1, .int ((6 * (F 19)) + v1)), (2, .int v2)]) (st' := [.int 2, .ref 40960]) 2 rfl ?_
      obtain ⟨⟨v20, F21, A22, J23⟩, hv20, hD⟩ := Option.bind_eq_some_iff.mp hD
      dsimp only at hD
      refine k_runC rfl rfl rfl rfl (t_d_known (d := d) ht hv20) ?_
      refine k_runB (pc' := 80) (loc' := [(0, .ref 40960), (1, .int ((6 * (F 19)) + v1)), (2, .int v2), (3, .int v20)]) (st' := [.int v20, .int ((6 * (F 19)) + v1), .ref 40991]) 5 rfl ?_
      obtain ⟨A24, hA24, hD⟩ := Option.bind_eq_some_iff.mp hD
      refine k_stI 31 rfl rfl (fun _ => rfl) hA24 ?_
      refine k_runB (pc' := 89) (loc' := [(0, .ref 40960), (1, .int ((6 * (F 19)) + v1)), (2, .int v2), (3, .int v20)]) (st' := [.int v20, .int 0, .ref 40960, .int ((6 * (F 19)) + v1), .ref 40992]) 6 rfl ?_
      refine k_if rfl (fun c89_24 => ?_) (fun c89_24 => ?_)
      · rw [c89_24, cond_true] at hD
        refine k_runB (pc' := 111) (loc' := [(0, .ref 40960), (1, .int ((6 * (F 19)) + v1)), (2, .int v2), (3, .int v20)]) (st' := [.int ((6 * (F21 19)) + v20), .ref 40982, .int 0, .ref 40960, .int ((6 * (F 19)) + v1), .ref 40992]) 8 rfl ?_
        obtain ⟨v26, hv26, hD⟩ := Option.bind_eq_some_iff.mp hD
        refine k_ldI rfl rfl hv26 ?_
        refine k_runB (pc' := 114) (loc' := [(0, .ref 40960), (1, .int ((6 * (F 19)) + v1)), (2, .int v2), (3, .int v20)]) (st' := [.int (v26 - 1), .int 0, .ref 40960, .int ((6 * (F 19)) + v1), .ref 40992]) 2 rfl ?_
        refine k_wk [0, 2] (loc' := [(0, .ref 40960), (2, .int v2)]) rfl rfl ?_
        exact t_d_tellMan_114 ht  hD
      · rw [c89_24, cond_false] at hD
        refine k_runB (pc' := 114) (loc' := [(0, .ref 40960), (1, .int ((6 * (F 19)) + v1)), (2, .int v2), (3, .int v20)]) (st' := [.int 9999, .int 0, .ref 40960, .int ((6 * (F 19)) + v1), .ref 40992]) 2 rfl ?_
        refine k_wk [0, 2] (loc' := [(0, .ref 40960), (2, .int v2)]) rfl rfl ?_
        exact t_d_tellMan_114 ht  hD
end MD
end Qz2
section Qz3
/-! the reference's methods as functions (printed by wip/dec.py) -/
section MD
variable {t : gT} {lg : Nat → Nat} {d : Nat} {c : Nat × Nat} {B : Nat → List gE} {F : Nat → Int32} {A : Nat → Nat → Int32} {J : Nat → Nat → Int64}
/-- SleepWorkModel.emit(II)V -/
def d_emit (F : Nat → Int32) (A : Nat → Nat → Int32) (J : Nat → Nat → Int64) (x1 : Int32) (x2 : Int32) : Option (Unit × (Nat → Int32) × (Nat → Nat → Int32) × (Nat → Nat → Int64)) :=
  (m_st A 42 840 (F 56) x1).bind fun A1 =>
  (m_st A1 43 840 (F 56) x2).bind fun A2 =>
  (m_pf F 56 ((F 56) + 1)).bind fun F3 =>
  some ((), F3, A2, J)
theorem t_d_emit (ht : ∀ k, t.1 12 k = k_ty 12 k) {x1 : Int32} {x2 : Int32} {r : Unit} {F' : Nat → Int32} {A' : Nat → Nat → Int32} {J' : Nat → Nat → Int64} : d_emit F A J x1 x2 = some (r, F', A', J') → k_run t lg (d) 172 0 [(0, .ref 40960), (1, .int x1), (2, .int x2)] [] (m_h c B F A J) (none, m_h c B F' A' J') := by
  intro hD
  unfold d_emit at hD
  refine k_runB (pc' := 9) (loc' := [(0, .ref 40960), (1, .int x1), (2, .int x2)]) (st' := [.int x1, .int (F 56), .ref 41002]) 5 rfl ?_
  obtain ⟨A1, hA1, hD⟩ := Option.bind_eq_some_iff.mp hD
  refine k_stI 42 rfl rfl (fun _ => rfl) hA1 ?_
  refine k_runB (pc' := 19) (loc' := [(0, .ref 40960), (1, .int x1), (2, .int x2)]) (st' := [.int x2, .int (F 56), .ref 41003]) 5 rfl ?_
  obtain ⟨A2, hA2, hD⟩ := Option.bind_eq_some_iff.mp hD
  refine k_stI 43 rfl rfl (fun _ => rfl) hA2 ?_
  refine k_runB (pc' := 27) (loc' := [(0, .ref 40960), (1, .int x1), (2, .int x2)]) (st' := [.int ((F 56) + 1), .ref 40960]) 5 rfl ?_
  obtain ⟨F3, hF3, hD⟩ := Option.bind_eq_some_iff.mp hD
  refine k_ptI rfl (ht 56) rfl rfl hF3 ?_
  cases hD
  exact k_vret rfl rfl
def d_comesOut_84 (K0 : (Nat → Int32) → (Nat → Nat → Int32) → (Nat → Nat → Int64) → Int32 → Option (Unit × (Nat → Int32) × (Nat → Nat → Int32) × (Nat → Nat → Int64))) (n : Nat) (F : Nat → Int32) (A : Nat → Nat → Int32) (J : Nat → Nat → Int64) (x1 : Int32) (s1 : Int32) : Option (Unit × (Nat → Int32) × (Nat → Nat → Int32) × (Nat → Nat → Int64)) :=
    (d_emit F A J s1 0).bind fun (_, F12, A13, J14) =>
    K0 F12 A13 J14 x1
theorem t_d_comesOut_84 (ht : ∀ k, t.1 12 k = k_ty 12 k) {n : Nat} {K0 : (Nat → Int32) → (Nat → Nat → Int32) → (Nat → Nat → Int64) → Int32 → Option (Unit × (Nat → Int32) × (Nat → Nat → Int32) × (Nat → Nat → Int64))} (hK0 : ∀ (F : Nat → Int32) (A : Nat → Nat → Int32) (J : Nat → Nat → Int64) (x1 : Int32) (w : Unit × (Nat → Int32) × (Nat → Nat → Int32) × (Nat → Nat → Int64)), K0 F A J x1 = some w → k_run t lg (d + 1) 173 0 [(0, .ref 40960), (1, .int x1)] [] (m_h c B F A J) (none, m_h c B w.2.1 w.2.2.1 w.2.2.2)) {F : Nat → Int32} {A : Nat → Nat → Int32} {J : Nat → Nat → Int64} {x1 : Int32} {s1 : Int32} {w : Unit × (Nat → Int32) × (Nat → Nat → Int32) × (Nat → Nat → Int64)} : d_comesOut_84 K0 n F A J x1 s1 = some w → k_run t lg (d + 1) 173 84 [(0, .ref 40960), (1, .int x1)] [.int s1, .ref 40960] (m_h c B F A J) (none, m_h c B w.2.1 w.2.2.1 w.2.2.2) := by
  intro hD
  unfold d_comesOut_84 at hD
  refine k_runB (pc' := 85) (loc' := [(0, .ref 40960), (1, .int x1)]) (st' := [.int 0, .int s1, .ref 40960]) 1 rfl ?_
  obtain ⟨⟨v11, F12, A13, J14⟩, hv11, hD⟩ := Option.bind_eq_some_iff.mp hD
  dsimp only at hD
  refine k_runC rfl rfl rfl rfl (t_d_emit (d := d) ht hv11) ?_
  refine k_runB (pc' := 0) (loc' := [(0, .ref 40960), (1, .int x1)]) (st' := []) 1 rfl ?_
  refine k_wk [0, 1] (loc' := [(0, .ref 40960), (1, .int x1)]) rfl rfl ?_
  exact hK0 _ _ _ _ _ hD
def d_comesOut_42 (K0 : (Nat → Int32) → (Nat → Nat → Int32) → (Nat → Nat → Int64) → Int32 → Option (Unit × (Nat → Int32) × (Nat → Nat → Int32) × (Nat → Nat → Int64))) (n : Nat) (F : Nat → Int32) (A : Nat → Nat → Int32) (J : Nat → Nat → Int64) (x1 : Int32) (x2 : Int32) : Option (Unit × (Nat → Int32) × (Nat → Nat → Int32) × (Nat → Nat → Int64)) :=
    (m_pf F 60 ((F 60) - 1)).bind fun F7 =>
    cond (g_cnd .ne x2 8)
    (cond (g_cnd .ne x2 9)
    (cond (g_cnd .ne x2 10)
    (d_comesOut_84 K0 n F7 A J x1 5)
    (d_comesOut_84 K0 n F7 A J x1 4))
    (d_comesOut_84 K0 n F7 A J x1 3))
    (d_comesOut_84 K0 n F7 A J x1 2)
theorem t_d_comesOut_42 (ht : ∀ k, t.1 12 k = k_ty 12 k) {n : Nat} {K0 : (Nat → Int32) → (Nat → Nat → Int32) → (Nat → Nat → Int64) → Int32 → Option (Unit × (Nat → Int32) × (Nat → Nat → Int32) × (Nat → Nat → Int64))} (hK0 : ∀ (F : Nat → Int32) (A : Nat → Nat → Int32) (J : Nat → Nat → Int64) (x1 : Int32) (w : Unit × (Nat → Int32) × (Nat → Nat → Int32) × (Nat → Nat → Int64)), K0 F A J x1 = some w → k_run t lg (d + 1) 173 0 [(0, .ref 40960), (1, .int x1)] [] (m_h c B F A J) (none, m_h c B w.2.1 w.2.2.1 w.2.2.2)) {F : Nat → Int32} {A : Nat → Nat → Int32} {J : Nat → Nat → Int64} {x1 : Int32} {x2 : Int32} {w : Unit × (Nat → Int32) × (Nat → Nat → Int32) × (Nat → Nat → Int64)} : d_comesOut_42 K0 n F A J x1 x2 = some w → k_run t lg (d + 1) 173 42 [(0, .ref 40960), (1, .int x1), (2, .int x2)] [] (m_h c B F A J) (none, m_h c B w.2.1 w.2.2.1 w.2.2.2) := by
  intro hD
  unfold d_comesOut_42 at hD
  refine k_runB (pc' := 49) (loc' := [(0, .ref 40960), (1, .int x1), (2, .int x2)]) (st' := [.int ((F 60) - 1), .ref 40960]) 5 rfl ?_
  obtain ⟨F7, hF7, hD⟩ := Option.bind_eq_some_iff.mp hD
  refine k_ptI rfl (ht 60) rfl rfl hF7 ?_
  refine k_runB (pc' := 56) (loc' := [(0, .ref 40960), (1, .int x1), (2, .int x2)]) (st' := [.int 8, .int x2, .ref 40960]) 3 rfl ?_
  refine k_ic rfl (fun c56_7 => ?_) (fun c56_7 => ?_)
  · rw [c56_7, cond_true] at hD
    refine k_runB (pc' := 66) (loc' := [(0, .ref 40960), (1, .int x1), (2, .int x2)]) (st' := [.int 9, .int x2, .ref 40960]) 2 rfl ?_
    refine k_ic rfl (fun c66_8 => ?_) (fun c66_8 => ?_)
    · rw [c66_8, cond_true] at hD
      refine k_runB (pc' := 76) (loc' := [(0, .ref 40960), (1, .int x1), (2, .int x2)]) (st' := [.int 10, .int x2, .ref 40960]) 2 rfl ?_
      refine k_ic rfl (fun c76_9 => ?_) (fun c76_9 => ?_)
      · rw [c76_9, cond_true] at hD
        refine k_runB (pc' := 84) (loc' := [(0, .ref 40960), (1, .int x1), (2, .int x2)]) (st' := [.int 5, .ref 40960]) 1 rfl ?_
        refine k_wk [0, 1] (loc' := [(0, .ref 40960), (1, .int x1)]) rfl rfl ?_
        exact t_d_comesOut_84 ht hK0 hD
      · rw [c76_9, cond_false] at hD
        refine k_runB (pc' := 84) (loc' := [(0, .ref 40960), (1, .int x1), (2, .int x2)]) (st' := [.int 4, .ref 40960]) 2 rfl ?_
        refine k_wk [0, 1] (loc' := [(0, .ref 40960), (1, .int x1)]) rfl rfl ?_
        exact t_d_comesOut_84 ht hK0 hD
    · rw [c66_8, cond_false] at hD
      refine k_runB (pc' := 84) (loc' := [(0, .ref 40960), (1, .int x1), (2, .int x2)]) (st' := [.int 3, .ref 40960]) 2 rfl ?_
      refine k_wk [0, 1] (loc' := [(0, .ref 40960), (1, .int x1)]) rfl rfl ?_
      exact t_d_comesOut_84 ht hK0 hD
  · rw [c56_7, cond_false] at hD
    refine k_runB (pc' := 84) (loc' := [(0, .ref 40960), (1, .int x1), (2, .int x2)]) (st' := [.int 2, .ref 40960]) 2 rfl ?_
    refine k_wk [0, 1] (loc' := [(0, .ref 40960), (1, .int x1)]) rfl rfl ?_
    exact t_d_comesOut_84 ht hK0 hD
def d_comesOut_0 : Nat → (Nat → Int32) → (Nat → Nat → Int32) → (Nat → Nat → Int64) → Int32 → Option (Unit × (Nat → Int32) × (Nat → Nat → Int32) × (Nat → Nat → Int64))
  | 0, _, _, _, _ => none
  | n + 1, F, A, J, x1 => cond (g_cnd .le (F 60) 0)
    (some ((), F, A, J))
    ((m_ld (A 44) 64 ((F 60) - 1)).bind fun v2 =>
    cond (g_cnd .eq v2 6)
    (some ((), F, A, J))
    (cond (g_cnd .eq x1 0)
    (d_comesOut_42 (d_comesOut_0 n) n F A J x1 v2)
    (cond (g_cnd .eq v2 8)
    (some ((), F, A, J))
    (cond (g_cnd .ne v2 9)
    (d_comesOut_42 (d_comesOut_0 n) n F A J x1 v2)
    (some ((), F, A, J))))))
theorem t_d_comesOut_0 (ht : ∀ k, t.1 12 k = k_ty 12 k) {n : Nat}  {F : Nat → Int32} {A : Nat → Nat → Int32} {J : Nat → Nat → Int64} {x1 : Int32} {w : Unit × (Nat → Int32) × (Nat → Nat → Int32) × (Nat → Nat → Int64)} : d_comesOut_0 n F A J x1 = some w → k_run t lg (d + 1) 173 0 [(0, .ref 40960), (1, .int x1)] [] (m_h c B F A J) (none, m_h c B w.2.1 w.2.2.1 w.2.2.2) := by
  induction n generalizing F A J x1 w with
  | zero => intro hD; cases hD
  | succ n ih =>
    intro hD
    have hK0 : ∀ (F : Nat → Int32) (A : Nat → Nat → Int32) (J : Nat → Nat → Int64) (x1 : Int32) (w : Unit × (Nat → Int32) × (Nat → Nat → Int32) × (Nat → Nat → Int64)), d_comesOut_0 n F A J x1 = some w → k_run t lg (d + 1) 173 0 [(0, .ref 40960), (1, .int x1)] [] (m_h c B F A J) (none, m_h c B w.2.1 w.2.2.1 w.2.2.2) := fun _ _ _ _ _ h => ih h
    unfold d_comesOut_0 at hD
    refine k_runB (pc' := 4) (loc' := [(0, .ref 40960), (1, .int x1)]) (st' := [.int (F 60)]) 2 rfl ?_
    refine k_if rfl (fun c4_0 => ?_) (fun c4_0 => ?_)
    · rw [c4_0, cond_true] at hD
      cases hD
      exact k_vret rfl rfl
    · rw [c4_0, cond_false] at hD
      refine k_runB (pc' := 17) (loc' := [(0, .ref 40960), (1, .int x1)]) (st' := [.int ((F 60) - 1), .ref 41004]) 6 rfl ?_
      obtain ⟨v2, hv2, hD⟩ := Option.bind_eq_some_iff.mp hD
      refine k_ldI rfl rfl hv2 ?_
      refine k_runB (pc' := 22) (loc' := [(0, .ref 40960), (1, .int x1), (2, .int v2)]) (st' := [.int 6, .int v2]) 3 rfl ?_
      refine k_ic rfl (fun c22_2 => ?_) (fun c22_2 => ?_)
      · rw [c22_2, cond_true] at hD
        cases hD
        exact k_vret rfl rfl
      · rw [c22_2, cond_false] at hD
        refine k_runB (pc' := 26) (loc' := [(0, .ref 40960), (1, .int x1), (2, .int v2)]) (st' := [.int x1]) 1 rfl ?_
        refine k_if rfl (fun c26_3 => ?_) (fun c26_3 => ?_)
        · rw [c26_3, cond_true] at hD
          refine k_wk [0, 1, 2] (loc' := [(0, .ref 40960), (1, .int x1), (2, .int v2)]) rfl rfl ?_
          exact t_d_comesOut_42 ht hK0 hD
        · rw [c26_3, cond_false] at hD
          refine k_runB (pc' := 32) (loc' := [(0, .ref 40960), (1, .int x1), (2, .int v2)]) (st' := [.int 8, .int v2]) 2 rfl ?_
          refine k_ic rfl (fun c32_4 => ?_) (fun c32_4 => ?_)
          · rw [c32_4, cond_true] at hD
            cases hD
            exact k_vret rfl rfl
          · rw [c32_4, cond_false] at hD
            refine k_runB (pc' := 38) (loc' := [(0, .ref 40960), (1, .int x1), (2, .int v2)]) (st' := [.int 9, .int v2]) 2 rfl ?_
            refine k_ic rfl (fun c38_5 => ?_) (fun c38_5 => ?_)
            · rw [c38_5, cond_true] at hD
              refine k_wk [0, 1, 2] (loc' := [(0, .ref 40960), (1, .int x1), (2, .int v2)]) rfl rfl ?_
              exact t_d_comesOut_42 ht hK0 hD
            · rw [c38_5, cond_false] at hD
              cases hD
              exact k_vret rfl rfl
/-- SleepWorkModel.comesOut(Z)V -/
def d_comesOut (n : Nat) (F : Nat → Int32) (A : Nat → Nat → Int32) (J : Nat → Nat → Int64) (x1 : Int32) : Option (Unit × (Nat → Int32) × (Nat → Nat → Int32) × (Nat → Nat → Int64)) :=
  d_comesOut_0 n F A J x1
theorem t_d_comesOut (ht : ∀ k, t.1 12 k = k_ty 12 k) {n : Nat} {x1 : Int32} {r : Unit} {F' : Nat → Int32} {A' : Nat → Nat → Int32} {J' : Nat → Nat → Int64} : d_comesOut n F A J x1 = some (r, F', A', J') → k_run t lg (d + 1) 173 0 [(0, .ref 40960), (1, .int x1)] [] (m_h c B F A J) (none, m_h c B F' A' J') := by
  intro hD
  unfold d_comesOut at hD
  refine k_wk [0, 1] (loc' := [(0, .ref 40960), (1, .int x1)]) rfl rfl ?_
  exact t_d_comesOut_0 ht  hD
def d_unit_88 (F : Nat → Int32) (A : Nat → Nat → Int32) (J : Nat → Nat → Int64) : Option (Unit × (Nat → Int32) × (Nat → Nat → Int32) × (Nat → Nat → Int64)) :=
    (d_fail F A J 1).bind fun (_, F27, A28, J29) =>
    some ((), F27, A28, J29)
theorem t_d_unit_88 (ht : ∀ k, t.1 12 k = k_ty 12 k)  {F : Nat → Int32} {A : Nat → Nat → Int32} {J : Nat → Nat → Int64}  {w : Unit × (Nat → Int32) × (Nat → Nat → Int32) × (Nat → Nat → Int64)} : d_unit_88 F A J = some w → k_run t lg (d + 2) 175 88 [(0, .ref 40960)] [] (m_h c B F A J) (none, m_h c B w.2.1 w.2.2.1 w.2.2.2) := by
  intro hD
  unfold d_unit_88 at hD
  refine k_runB (pc' := 90) (loc' := [(0, .ref 40960)]) (st' := [.int 1, .ref 40960]) 2 rfl ?_
  obtain ⟨⟨v26, F27, A28, J29⟩, hv26, hD⟩ := Option.bind_eq_some_iff.mp hD
  dsimp only at hD
  refine k_runC rfl rfl rfl rfl (t_d_fail (d := d + 1) ht hv26) ?_
  cases hD
  exact k_vret rfl rfl
/-- SleepWorkModel.unit()V -/
def d_unit (F : Nat → Int32) (A : Nat → Nat → Int32) (J : Nat → Nat → Int64) : Option (Unit × (Nat → Int32) × (Nat → Nat → Int32) × (Nat → Nat → Int64)) :=
  (d_is F A J 2).bind fun v1 =>
  cond (g_cnd .eq v1 0)
  (cond (g_cnd .ne (F 13) 0)
  (d_unit_88 F A J)
  ((m_ld (A 3) 403 (F 11)).bind fun v4 =>
  cond (g_cnd .lt v4 35)
  (d_unit_88 F A J)
  ((m_ld (A 3) 403 (F 11)).bind fun v6 =>
  cond (g_cnd .gt v6 40)
  (d_unit_88 F A J)
  ((m_ld (A 3) 403 (F 11)).bind fun v8 =>
  (d_emit F A J 1 (v8 - 35)).bind fun (_, F10, A11, J12) =>
  (d_goesOn F10 A11 J12).bind fun (_, F14, A15, J16) =>
  some ((), F14, A15, J16)))))
  ((m_ld (A 5) 403 (F 11)).bind fun v17 =>
  (d_emit F A J 0 v17).bind fun (_, F19, A20, J21) =>
  (d_goesOn F19 A20 J21).bind fun (_, F23, A24, J25) =>
  some ((), F23, A24, J25))
theorem t_d_unit (ht : ∀ k, t.1 12 k = k_ty 12 k) {r : Unit} {F' : Nat → Int32} {A' : Nat → Nat → Int32} {J' : Nat → Nat → Int64} : d_unit F A J = some (r, F', A', J') → k_run t lg (d + 2) 175 0 [(0, .ref 40960)] [] (m_h c B F A J) (none, m_h c B F' A' J') := by
  intro hD
  unfold d_unit at hD
  refine k_runB (pc' := 2) (loc' := [(0, .ref 40960)]) (st' := [.int 2, .ref 40960]) 2 rfl ?_
  obtain ⟨v1, hv1, hD⟩ := Option.bind_eq_some_iff.mp hD
  refine k_runC rfl rfl rfl rfl (t_d_is (d := d + 1) hv1) ?_
  refine k_if rfl (fun c5_1 => ?_) (fun c5_1 => ?_)
  · rw [c5_1, cond_true] at hD
    refine k_runB (pc' := 33) (loc' := [(0, .ref 40960)]) (st' := [.int (F 13)]) 2 rfl ?_
    refine k_if rfl (fun c33_2 => ?_) (fun c33_2 => ?_)
    · rw [c33_2, cond_true] at hD
      refine k_wk [0] (loc' := [(0, .ref 40960)]) rfl rfl ?_
      exact t_d_unit_88 ht  hD
    · rw [c33_2, cond_false] at hD
      refine k_runB (pc' := 44) (loc' := [(0, .ref 40960)]) (st' := [.int (F 11), .ref 40963]) 4 rfl ?_
      obtain ⟨v4, hv4, hD⟩ := Option.bind_eq_some_iff.mp hD
      refine k_ldI rfl rfl hv4 ?_
      refine k_runB (pc' := 47) (loc' := [(0, .ref 40960)]) (st' := [.int 35, .int v4]) 1 rfl ?_
      refine k_ic rfl (fun c47_4 => ?_) (fun c47_4 => ?_)
      · rw [c47_4, cond_true] at hD
        refine k_wk [0] (loc' := [(0, .ref 40960)]) rfl rfl ?_
        exact t_d_unit_88 ht  hD
      · rw [c47_4, cond_false] at hD
        refine k_runB (pc' := 58) (loc' := [(0, .ref 40960)]) (st' := [.int (F 11), .ref 40963]) 4 rfl ?_
        obtain ⟨v6, hv6, hD⟩ := Option.bind_eq_some_iff.mp hD
        refine k_ldI rfl rfl hv6 ?_
        refine k_runB (pc' := 61) (loc' := [(0, .ref 40960)]) (st' := [.int 40, .int v6]) 1 rfl ?_
        refine k_ic rfl (fun c61_6 => ?_) (fun c61_6 => ?_)
        · rw [c61_6, cond_true] at hD
          refine k_wk [0] (loc' := [(0, .ref 40960)]) rfl rfl ?_
          exact t_d_unit_88 ht  hD
        · rw [c61_6, cond_false] at hD
          refine k_runB (pc' := 74) (loc' := [(0, .ref 40960)]) (st' := [.int (F 11), .ref 40963, .int 1, .ref 40960]) 6 rfl ?_
          obtain ⟨v8, hv8, hD⟩ := Option.bind_eq_some_iff.mp hD
          refine k_ldI rfl rfl hv8 ?_
          refine k_runB (pc' := 78) (loc' := [(0, .ref 40960)]) (st' := [.int (v8 - 35), .int 1, .ref 40960]) 2 rfl ?_
          obtain ⟨⟨v9, F10, A11, J12⟩, hv9, hD⟩ := Option.bind_eq_some_iff.mp hD
          dsimp only at hD
          refine k_runC rfl rfl rfl rfl (t_d_emit (d := d + 1) ht hv9) ?_
          refine k_runB (pc' := 82) (loc' := [(0, .ref 40960)]) (st' := [.ref 40960]) 1 rfl ?_
          obtain ⟨⟨v13, F14, A15, J16⟩, hv13, hD⟩ := Option.bind_eq_some_iff.mp hD
          dsimp only at hD
          refine k_runC rfl rfl rfl rfl (t_d_goesOn (d := d) ht hv13) ?_
          refine k_runB (pc' := 93) (loc' := [(0, .ref 40960)]) (st' := []) 1 rfl ?_
          cases hD
          exact k_vret rfl rfl
  · rw [c5_1, cond_false] at hD
    refine k_runB (pc' := 18) (loc' := [(0, .ref 40960)]) (st' := [.int (F 11), .ref 40965, .int 0, .ref 40960]) 6 rfl ?_
    obtain ⟨v17, hv17, hD⟩ := Option.bind_eq_some_iff.mp hD
    refine k_ldI rfl rfl hv17 ?_
    obtain ⟨⟨v18, F19, A20, J21⟩, hv18, hD⟩ := Option.bind_eq_some_iff.mp hD
    dsimp only at hD
    refine k_runC rfl rfl rfl rfl (t_d_emit (d := d + 1) ht hv18) ?_
    refine k_runB (pc' := 23) (loc' := [(0, .ref 40960)]) (st' := [.ref 40960]) 1 rfl ?_
    obtain ⟨⟨v22, F23, A24, J25⟩, hv22, hD⟩ := Option.bind_eq_some_iff.mp hD
    dsimp only at hD
    refine k_runC rfl rfl rfl rfl (t_d_goesOn (d := d) ht hv22) ?_
    refine k_runB (pc' := 93) (loc' := [(0, .ref 40960)]) (st' := []) 1 rfl ?_
    cases hD
    exact k_vret rfl rfl
def d_termOf_159 (K5 : (Nat → Int32) → (Nat → Nat → Int32) → (Nat → Nat → Int64) → Int32 → Int32 → Int32 → Option (Int32 × (Nat → Int32) × (Nat → Nat → Int32) × (Nat → Nat → Int64))) (n : Nat) (F : Nat → Int32) (A : Nat → Nat → Int32) (J : Nat → Nat → Int64) (x2 : Int32) (x3 : Int32) (x4 : Int32) : Option (Int32 × (Nat → Int32) × (Nat → Nat → Int32) × (Nat → Nat → Int64)) :=
    K5 F A J x2 x3 (x4 + 1)
theorem t_d_termOf_159 (ht : ∀ k, t.1 12 k = k_ty 12 k) {n : Nat} {K5 : (Nat → Int32) → (Nat → Nat → Int32) → (Nat → Nat → Int64) → Int32 → Int32 → Int32 → Option (Int32 × (Nat → Int32) × (Nat → Nat → Int32) × (Nat → Nat → Int64))} (hK5 : ∀ (F : Nat → Int32) (A : Nat → Nat → Int32) (J : Nat → Nat → Int64) (x2 : Int32) (x3 : Int32) (x4 : Int32) (w : Int32 × (Nat → Int32) × (Nat → Nat → Int32) × (Nat → Nat → Int64)), K5 F A J x2 x3 x4 = some w → k_run t lg (d) 176 5 [(0, .ref 40960), (2, .int x2), (3, .int x3), (4, .int x4)] [] (m_h c B F A J) (some (.int w.1), m_h c B w.2.1 w.2.2.1 w.2.2.2)) {F : Nat → Int32} {A : Nat → Nat → Int32} {J : Nat → Nat → Int64} {x2 : Int32} {x3 : Int32} {x4 : Int32} {w : Int32 × (Nat → Int32) × (Nat → Nat → Int32) × (Nat → Nat → Int64)} : d_termOf_159 K5 n F A J x2 x3 x4 = some w → k_run t lg (d) 176 159 [(0, .ref 40960), (2, .int x2), (3, .int x3), (4, .int x4)] [] (m_h c B F A J) (some (.int w.1), m_h c B w.2.1 w.2.2.1 w.2.2.2) := by
  intro hD
  unfold d_termOf_159 at hD
  refine k_runB (pc' := 5) (loc' := [(0, .ref 40960), (2, .int x2), (3, .int x3), (4, .int (x4 + 1))]) (st' := []) 2 rfl ?_
  refine k_wk [0, 2, 3, 4] (loc' := [(0, .ref 40960), (2, .int x2), (3, .int x3), (4, .int (x4 + 1))]) rfl rfl ?_
  exact hK5 _ _ _ _ _ _ _ hD
def d_termOf_158 (K5 : (Nat → Int32) → (Nat → Nat → Int32) → (Nat → Nat → Int64) → Int32 → Int32 → Int32 → Option (Int32 × (Nat → Int32) × (Nat → Nat → Int32) × (Nat → Nat → Int64))) (n : Nat) (F : Nat → Int32) (A : Nat → Nat → Int32) (J : Nat → Nat → Int64) (x2 : Int32) (x3 : Int32) (x4 : Int32) (s1 : Int32) (s2 : Int32) : Option (Int32 × (Nat → Int32) × (Nat → Nat → Int32) × (Nat → Nat → Int64)) :=
    (m_st A 46 400 s1 s2).bind fun A21 =>
    K5 F A21 J x2 x3 (x4 + 1)
theorem t_d_termOf_158 (ht : ∀ k, t.1 12 k = k_ty 12 k) {n : Nat} {K5 : (Nat → Int32) → (Nat → Nat → Int32) → (Nat → Nat → Int64) → Int32 → Int32 → Int32 → Option (Int32 × (Nat → Int32) × (Nat → Nat → Int32) × (Nat → Nat → Int64))} (hK5 : ∀ (F : Nat → Int32) (A : Nat → Nat → Int32) (J : Nat → Nat → Int64) (x2 : Int32) (x3 : Int32) (x4 : Int32) (w : Int32 × (Nat → Int32) × (Nat → Nat → Int32) × (Nat → Nat → Int64)), K5 F A J x2 x3 x4 = some w → k_run t lg (d) 176 5 [(0, .ref 40960), (2, .int x2), (3, .int x3), (4, .int x4)] [] (m_h c B F A J) (some (.int w.1), m_h c B w.2.1 w.2.2.1 w.2.2.2)) {F : Nat → Int32} {A : Nat → Nat → Int32} {J : Nat → Nat → Int64} {x2 : Int32} {x3 : Int32} {x4 : Int32} {s1 : Int32} {s2 : Int32} {w : Int32 × (Nat → Int32) × (Nat → Nat → Int32) × (Nat → Nat → Int64)} : d_termOf_158 K5 n F A J x2 x3 x4 s1 s2 = some w → k_run t lg (d) 176 158 [(0, .ref 40960), (2, .int x2), (3, .int x3), (4, .int x4)] [.int s2, .int s1, .ref 41006] (m_h c B F A J) (some (.int w.1), m_h c B w.2.1 w.2.2.1 w.2.2.2) := by
  intro hD
  unfold d_termOf_158 at hD
  obtain ⟨A21, hA21, hD⟩ := Option.bind_eq_some_iff.mp hD
  refine k_stI 46 rfl rfl (fun _ => rfl) hA21 ?_
  refine k_runB (pc' := 5) (loc' := [(0, .ref 40960), (2, .int x2), (3, .int x3), (4, .int (x4 + 1))]) (st' := []) 2 rfl ?_
  refine k_wk [0, 2, 3, 4] (loc' := [(0, .ref 40960), (2, .int x2), (3, .int x3), (4, .int (x4 + 1))]) rfl rfl ?_
  exact hK5 _ _ _ _ _ _ _ hD
def d_termOf_104 (K5 : (Nat → Int32) → (Nat → Nat → Int32) → (Nat → Nat → Int64) → Int32 → Int32 → Int32 → Option (Int32 × (Nat → Int32) × (Nat → Nat → Int32) × (Nat → Nat → Int64))) (n : Nat) (F : Nat → Int32) (A : Nat → Nat → Int32) (J : Nat → Nat → Int64) (x2 : Int32) (x3 : Int32) (x4 : Int32) (x5 : Int32) (x6 : Int32) (x7 : Int32) : Option (Int32 × (Nat → Int32) × (Nat → Nat → Int32) × (Nat → Nat → Int64)) :=
    cond (g_cnd .ne x5 2)
    (cond (g_cnd .ne x5 3)
    (cond (g_cnd .ne x5 4)
    ((m_div x6 x7).bind fun v18 =>
    (m_st A 46 400 (x3 - 1) v18).bind fun A19 =>
    K5 F A19 J x2 x3 (x4 + 1))
    (d_termOf_158 K5 n F A J x2 x3 x4 (x3 - 1) (x6 * x7)))
    (d_termOf_158 K5 n F A J x2 x3 x4 (x3 - 1) (x6 - x7)))
    (d_termOf_158 K5 n F A J x2 x3 x4 (x3 - 1) (x6 + x7))
theorem t_d_termOf_104 (ht : ∀ k, t.1 12 k = k_ty 12 k) {n : Nat} {K5 : (Nat → Int32) → (Nat → Nat → Int32) → (Nat → Nat → Int64) → Int32 → Int32 → Int32 → Option (Int32 × (Nat → Int32) × (Nat → Nat → Int32) × (Nat → Nat → Int64))} (hK5 : ∀ (F : Nat → Int32) (A : Nat → Nat → Int32) (J : Nat → Nat → Int64) (x2 : Int32) (x3 : Int32) (x4 : Int32) (w : Int32 × (Nat → Int32) × (Nat → Nat → Int32) × (Nat → Nat → Int64)), K5 F A J x2 x3 x4 = some w → k_run t lg (d) 176 5 [(0, .ref 40960), (2, .int x2), (3, .int x3), (4, .int x4)] [] (m_h c B F A J) (some (.int w.1), m_h c B w.2.1 w.2.2.1 w.2.2.2)) {F : Nat → Int32} {A : Nat → Nat → Int32} {J : Nat → Nat → Int64} {x2 : Int32} {x3 : Int32} {x4 : Int32} {x5 : Int32} {x6 : Int32} {x7 : Int32} {w : Int32 × (Nat → Int32) × (Nat → Nat → Int32) × (Nat → Nat → Int64)} : d_termOf_104 K5 n F A J x2 x3 x4 x5 x6 x7 = some w → k_run t lg (d) 176 104 [(0, .ref 40960), (2, .int x2), (3, .int x3), (4, .int x4), (5, .int x5), (6, .int x6), (7, .int x7)] [] (m_h c B F A J) (some (.int w.1), m_h c B w.2.1 w.2.2.1 w.2.2.2) := by
  intro hD
  unfold d_termOf_104 at hD
  refine k_runB (pc' := 114) (loc' := [(0, .ref 40960), (2, .int x2), (3, .int x3), (4, .int x4), (5, .int x5), (6, .int x6), (7, .int x7)]) (st' := [.int 2, .int x5, .int (x3 - 1), .ref 41006]) 7 rfl ?_
  refine k_ic rfl (fun c114_14 => ?_) (fun c114_14 => ?_)
  · rw [c114_14, cond_true] at hD
    refine k_runB (pc' := 128) (loc' := [(0, .ref 40960), (2, .int x2), (3, .int x3), (4, .int x4), (5, .int x5), (6, .int x6), (7, .int x7)]) (st' := [.int 3, .int x5, .int (x3 - 1), .ref 41006]) 2 rfl ?_
    refine k_ic rfl (fun c128_15 => ?_) (fun c128_15 => ?_)
    · rw [c128_15, cond_true] at hD
      refine k_runB (pc' := 142) (loc' := [(0, .ref 40960), (2, .int x2), (3, .int x3), (4, .int x4), (5, .int x5), (6, .int x6), (7, .int x7)]) (st' := [.int 4, .int x5, .int (x3 - 1), .ref 41006]) 2 rfl ?_
      refine k_ic rfl (fun c142_16 => ?_) (fun c142_16 => ?_)
      · rw [c142_16, cond_true] at hD
        refine k_runB (pc' := 157) (loc' := [(0, .ref 40960), (2, .int x2), (3, .int x3), (4, .int x4), (5, .int x5), (6, .int x6), (7, .int x7)]) (st' := [.int x7, .int x6, .int (x3 - 1), .ref 41006]) 2 rfl ?_
        obtain ⟨v18, hv18, hD⟩ := Option.bind_eq_some_iff.mp hD
        refine k_dvI rfl hv18 ?_
        obtain ⟨A19, hA19, hD⟩ := Option.bind_eq_some_iff.mp hD
        refine k_stI 46 rfl rfl (fun _ => rfl) hA19 ?_
        refine k_runB (pc' := 5) (loc' := [(0, .ref 40960), (2, .int x2), (3, .int x3), (4, .int (x4 + 1)), (5, .int x5), (6, .int x6), (7, .int x7)]) (st' := []) 2 rfl ?_
        refine k_wk [0, 2, 3, 4] (loc' := [(0, .ref 40960), (2, .int x2), (3, .int x3), (4, .int (x4 + 1))]) rfl rfl ?_
        exact hK5 _ _ _ _ _ _ _ hD
      · rw [c142_16, cond_false] at hD
        refine k_runB (pc' := 158) (loc' := [(0, .ref 40960), (2, .int x2), (3, .int x3), (4, .int x4), (5, .int x5), (6, .int x6), (7, .int x7)]) (st' := [.int (x6 * x7), .int (x3 - 1), .ref 41006]) 4 rfl ?_
        refine k_wk [0, 2, 3, 4] (loc' := [(0, .ref 40960), (2, .int x2), (3, .int x3), (4, .int x4)]) rfl rfl ?_
        exact t_d_termOf_158 ht hK5 hD
    · rw [c128_15, cond_false] at hD
      refine k_runB (pc' := 158) (loc' := [(0, .ref 40960), (2, .int x2), (3, .int x3), (4, .int x4), (5, .int x5), (6, .int x6), (7, .int x7)]) (st' := [.int (x6 - x7), .int (x3 - 1), .ref 41006]) 4 rfl ?_
      refine k_wk [0, 2, 3, 4] (loc' := [(0, .ref 40960), (2, .int x2), (3, .int x3), (4, .int x4)]) rfl rfl ?_
      exact t_d_termOf_158 ht hK5 hD
  · rw [c114_14, cond_false] at hD
    refine k_runB (pc' := 158) (loc' := [(0, .ref 40960), (2, .int x2), (3, .int x3), (4, .int x4), (5, .int x5), (6, .int x6), (7, .int x7)]) (st' := [.int (x6 + x7), .int (x3 - 1), .ref 41006]) 4 rfl ?_
    refine k_wk [0, 2, 3, 4] (loc' := [(0, .ref 40960), (2, .int x2), (3, .int x3), (4, .int x4)]) rfl rfl ?_
    exact t_d_termOf_158 ht hK5 hD
def d_termOf_58 (K5 : (Nat → Int32) → (Nat → Nat → Int32) → (Nat → Nat → Int64) → Int32 → Int32 → Int32 → Option (Int32 × (Nat → Int32) × (Nat → Nat → Int32) × (Nat → Nat → Int64))) (n : Nat) (F : Nat → Int32) (A : Nat → Nat → Int32) (J : Nat → Nat → Int64) (x2 : Int32) (x3 : Int32) (x4 : Int32) (s1 : Int32) (s2 : Int32) : Option (Int32 × (Nat → Int32) × (Nat → Nat → Int32) × (Nat → Nat → Int64)) :=
    (m_st A 46 400 s1 s2).bind fun A20 =>
    d_termOf_159 K5 n F A20 J x2 (x3 + 1) x4
theorem t_d_termOf_58 (ht : ∀ k, t.1 12 k = k_ty 12 k) {n : Nat} {K5 : (Nat → Int32) → (Nat → Nat → Int32) → (Nat → Nat → Int64) → Int32 → Int32 → Int32 → Option (Int32 × (Nat → Int32) × (Nat → Nat → Int32) × (Nat → Nat → Int64))} (hK5 : ∀ (F : Nat → Int32) (A : Nat → Nat → Int32) (J : Nat → Nat → Int64) (x2 : Int32) (x3 : Int32) (x4 : Int32) (w : Int32 × (Nat → Int32) × (Nat → Nat → Int32) × (Nat → Nat → Int64)), K5 F A J x2 x3 x4 = some w → k_run t lg (d) 176 5 [(0, .ref 40960), (2, .int x2), (3, .int x3), (4, .int x4)] [] (m_h c B F A J) (some (.int w.1), m_h c B w.2.1 w.2.2.1 w.2.2.2)) {F : Nat → Int32} {A : Nat → Nat → Int32} {J : Nat → Nat → Int64} {x2 : Int32} {x3 : Int32} {x4 : Int32} {s1 : Int32} {s2 : Int32} {w : Int32 × (Nat → Int32) × (Nat → Nat → Int32) × (Nat → Nat → Int64)} : d_termOf_58 K5 n F A J x2 x3 x4 s1 s2 = some w → k_run t lg (d) 176 58 [(0, .ref 40960), (2, .int x2), (3, .int x3), (4, .int x4)] [.int s2, .int s1, .ref 41006] (m_h c B F A J) (some (.int w.1), m_h c B w.2.1 w.2.2.1 w.2.2.2) := by
  intro hD
  unfold d_termOf_58 at hD
  obtain ⟨A20, hA20, hD⟩ := Option.bind_eq_some_iff.mp hD
  refine k_stI 46 rfl rfl (fun _ => rfl) hA20 ?_
  refine k_runB (pc' := 159) (loc' := [(0, .ref 40960), (2, .int x2), (3, .int (x3 + 1)), (4, .int x4)]) (st' := []) 2 rfl ?_
  refine k_wk [0, 2, 3, 4] (loc' := [(0, .ref 40960), (2, .int x2), (3, .int (x3 + 1)), (4, .int x4)]) rfl rfl ?_
  exact t_d_termOf_159 ht hK5 hD
def d_termOf_5 : Nat → (Nat → Int32) → (Nat → Nat → Int32) → (Nat → Nat → Int64) → Int32 → Int32 → Int32 → Option (Int32 × (Nat → Int32) × (Nat → Nat → Int32) × (Nat → Nat → Int64))
  | 0, _, _, _, _, _, _ => none
  | n + 1, F, A, J, x2, x3, x4 => cond (g_cnd .ge x4 x2)
    ((m_ld (A 46) 400 0).bind fun v2 =>
    some (v2, F, A, J))
    ((m_ld (A 42) 840 x4).bind fun v3 =>
    cond (g_cnd .ge v3 2)
    ((m_ld (A 46) 400 ((x3 + (-1)) - 1)).bind fun v5 =>
    (m_ld (A 46) 400 (x3 + (-1))).bind fun v6 =>
    cond (g_cnd .ne v3 5)
    (d_termOf_104 (d_termOf_5 n) n F A J x2 (x3 + (-1)) x4 v3 v5 v6)
    (cond (g_cnd .ne v6 0)
    (d_termOf_104 (d_termOf_5 n) n F A J x2 (x3 + (-1)) x4 v3 v5 v6)
    ((m_pfz F 63 1).bind fun F9 =>
    some (0, F9, A, J))))
    (cond (g_cnd .ne v3 0)
    ((m_ld (A 43) 840 x4).bind fun v11 =>
    (m_ld (A 45) 6 v11).bind fun v12 =>
    (m_st A 46 400 x3 v12).bind fun A13 =>
    d_termOf_159 (d_termOf_5 n) n F A13 J x2 (x3 + 1) x4)
    ((m_ld (A 43) 840 x4).bind fun v14 =>
    d_termOf_58 (d_termOf_5 n) n F A J x2 x3 x4 x3 v14)))
theorem t_d_termOf_5 (ht : ∀ k, t.1 12 k = k_ty 12 k) {n : Nat}  {F : Nat → Int32} {A : Nat → Nat → Int32} {J : Nat → Nat → Int64} {x2 : Int32} {x3 : Int32} {x4 : Int32} {w : Int32 × (Nat → Int32) × (Nat → Nat → Int32) × (Nat → Nat → Int64)} : d_termOf_5 n F A J x2 x3 x4 = some w → k_run t lg (d) 176 5 [(0, .ref 40960), (2, .int x2), (3, .int x3), (4, .int x4)] [] (m_h c B F A J) (some (.int w.1), m_h c B w.2.1 w.2.2.1 w.2.2.2) := by
  induction n generalizing F A J x2 x3 x4 w with
  | zero => intro hD; cases hD
  | succ n ih =>
    intro hD
    have hK5 : ∀ (F : Nat → Int32) (A : Nat → Nat → Int32) (J : Nat → Nat → Int64) (x2 : Int32) (x3 : Int32) (x4 : Int32) (w : Int32 × (Nat → Int32) × (Nat → Nat → Int32) × (Nat → Nat → Int64)), d_termOf_5 n F A J x2 x3 x4 = some w → k_run t lg (d) 176 5 [(0, .ref 40960), (2, .int x2), (3, .int x3), (4, .int x4)] [] (m_h c B F A J) (some (.int w.1), m_h c B w.2.1 w.2.2.1 w.2.2.2) := fun _ _ _ _ _ _ _ h => ih h
    unfold d_termOf_5 at hD
    refine k_runB (pc' := 8) (loc' := [(0, .ref 40960), (2, .int x2), (3, .int x3), (4, .int x4)]) (st' := [.int x2, .int x4]) 2 rfl ?_
    refine k_ic rfl (fun c8_0 => ?_) (fun c8_0 => ?_)
    · rw [c8_0, cond_true] at hD
      refine k_runB (pc' := 170) (loc' := [(0, .ref 40960), (2, .int x2), (3, .int x3), (4, .int x4)]) (st' := [.int 0, .ref 41006]) 3 rfl ?_
      obtain ⟨v2, hv2, hD⟩ := Option.bind_eq_some_iff.mp hD
      refine k_ldI rfl rfl hv2 ?_
      cases hD
      exact k_iret rfl rfl
    · rw [c8_0, cond_false] at hD
      refine k_runB (pc' := 17) (loc' := [(0, .ref 40960), (2, .int x2), (3, .int x3), (4, .int x4)]) (st' := [.int x4, .ref 41002]) 3 rfl ?_
      obtain ⟨v3, hv3, hD⟩ := Option.bind_eq_some_iff.mp hD
      refine k_ldI rfl rfl hv3 ?_
      refine k_runB (pc' := 23) (loc' := [(0, .ref 40960), (2, .int x2), (3, .int x3), (4, .int x4), (5, .int v3)]) (st' := [.int 2, .int v3]) 3 rfl ?_
      refine k_ic rfl (fun c23_3 => ?_) (fun c23_3 => ?_)
      · rw [c23_3, cond_true] at hD
        refine k_runB (pc' := 75) (loc' := [(0, .ref 40960), (2, .int x2), (3, .int (x3 + (-1))), (4, .int x4), (5, .int v3)]) (st' := [.int ((x3 + (-1)) - 1), .ref 41006]) 6 rfl ?_
        obtain ⟨v5, hv5, hD⟩ := Option.bind_eq_some_iff.mp hD
        refine k_ldI rfl rfl hv5 ?_
        refine k_runB (pc' := 83) (loc' := [(0, .ref 40960), (2, .int x2), (3, .int (x3 + (-1))), (4, .int x4), (5, .int v3), (6, .int v5)]) (st' := [.int (x3 + (-1)), .ref 41006]) 4 rfl ?_
        obtain ⟨v6, hv6, hD⟩ := Option.bind_eq_some_iff.mp hD
        refine k_ldI rfl rfl hv6 ?_
        refine k_runB (pc' := 89) (loc' := [(0, .ref 40960), (2, .int x2), (3, .int (x3 + (-1))), (4, .int x4), (5, .int v3), (6, .int v5), (7, .int v6)]) (st' := [.int 5, .int v3]) 3 rfl ?_
        refine k_ic rfl (fun c89_6 => ?_) (fun c89_6 => ?_)
        · rw [c89_6, cond_true] at hD
          refine k_wk [0, 2, 3, 4, 5, 6, 7] (loc' := [(0, .ref 40960), (2, .int x2), (3, .int (x3 + (-1))), (4, .int x4), (5, .int v3), (6, .int v5), (7, .int v6)]) rfl rfl ?_
          exact t_d_termOf_104 ht hK5 hD
        · rw [c89_6, cond_false] at hD
          refine k_runB (pc' := 94) (loc' := [(0, .ref 40960), (2, .int x2), (3, .int (x3 + (-1))), (4, .int x4), (5, .int v3), (6, .int v5), (7, .int v6)]) (st' := [.int v6]) 1 rfl ?_
          refine k_if rfl (fun c94_7 => ?_) (fun c94_7 => ?_)
          · rw [c94_7, cond_true] at hD
            refine k_wk [0, 2, 3, 4, 5, 6, 7] (loc' := [(0, .ref 40960), (2, .int x2), (3, .int (x3 + (-1))), (4, .int x4), (5, .int v3), (6, .int v5), (7, .int v6)]) rfl rfl ?_
            exact t_d_termOf_104 ht hK5 hD
          · rw [c94_7, cond_false] at hD
            refine k_runB (pc' := 99) (loc' := [(0, .ref 40960), (2, .int x2), (3, .int (x3 + (-1))), (4, .int x4), (5, .int v3), (6, .int v5), (7, .int v6)]) (st' := [.int 1, .ref 40960]) 2 rfl ?_
            obtain ⟨F9, hF9, hD⟩ := Option.bind_eq_some_iff.mp hD
            refine k_ptZ rfl (ht 63) rfl rfl hF9 ?_
            refine k_runB (pc' := 103) (loc' := [(0, .ref 40960), (2, .int x2), (3, .int (x3 + (-1))), (4, .int x4), (5, .int v3), (6, .int v5), (7, .int v6)]) (st' := [.int 0]) 1 rfl ?_
            cases hD
            exact k_iret rfl rfl
      · rw [c23_3, cond_false] at hD
        refine k_runB (pc' := 33) (loc' := [(0, .ref 40960), (2, .int x2), (3, .int x3), (4, .int x4), (5, .int v3)]) (st' := [.int v3, .int x3, .ref 41006]) 4 rfl ?_
        refine k_if rfl (fun c33_9 => ?_) (fun c33_9 => ?_)
        · rw [c33_9, cond_true] at hD
          refine k_runB (pc' := 56) (loc' := [(0, .ref 40960), (2, .int x2), (3, .int x3), (4, .int x4), (5, .int v3)]) (st' := [.int x4, .ref 41003, .ref 41005, .int x3, .ref 41006]) 5 rfl ?_
          obtain ⟨v11, hv11, hD⟩ := Option.bind_eq_some_iff.mp hD
          refine k_ldI rfl rfl hv11 ?_
          obtain ⟨v12, hv12, hD⟩ := Option.bind_eq_some_iff.mp hD
          refine k_ldI rfl rfl hv12 ?_
          obtain ⟨A13, hA13, hD⟩ := Option.bind_eq_some_iff.mp hD
          refine k_stI 46 rfl rfl (fun _ => rfl) hA13 ?_
          refine k_runB (pc' := 159) (loc' := [(0, .ref 40960), (2, .int x2), (3, .int (x3 + 1)), (4, .int x4), (5, .int v3)]) (st' := []) 2 rfl ?_
          refine k_wk [0, 2, 3, 4] (loc' := [(0, .ref 40960), (2, .int x2), (3, .int (x3 + 1)), (4, .int x4)]) rfl rfl ?_
          exact t_d_termOf_159 ht hK5 hD
        · rw [c33_9, cond_false] at hD
          refine k_runB (pc' := 42) (loc' := [(0, .ref 40960), (2, .int x2), (3, .int x3), (4, .int x4), (5, .int v3)]) (st' := [.int x4, .ref 41003, .int x3, .ref 41006]) 3 rfl ?_
          obtain ⟨v14, hv14, hD⟩ := Option.bind_eq_some_iff.mp hD
          refine k_ldI rfl rfl hv14 ?_
          refine k_runB (pc' := 58) (loc' := [(0, .ref 40960), (2, .int x2), (3, .int x3), (4, .int x4), (5, .int v3)]) (st' := [.int v14, .int x3, .ref 41006]) 1 rfl ?_
          refine k_wk [0, 2, 3, 4] (loc' := [(0, .ref 40960), (2, .int x2), (3, .int x3), (4, .int x4)]) rfl rfl ?_
          exact t_d_termOf_58 ht hK5 hD
/-- SleepWorkModel.termOf(II)I -/
def d_termOf (n : Nat) (F : Nat → Int32) (A : Nat → Nat → Int32) (J : Nat → Nat → Int64) (x1 : Int32) (x2 : Int32) : Option (Int32 × (Nat → Int32) × (Nat → Nat → Int32) × (Nat → Nat → Int64)) :=
  d_termOf_5 n F A J x2 0 x1
theorem t_d_termOf (ht : ∀ k, t.1 12 k = k_ty 12 k) {n : Nat} {x1 : Int32} {x2 : Int32} {r : Int32} {F' : Nat → Int32} {A' : Nat → Nat → Int32} {J' : Nat → Nat → Int64} : d_termOf n F A J x1 x2 = some (r, F', A', J') → k_run t lg (d) 176 0 [(0, .ref 40960), (1, .int x1), (2, .int x2)] [] (m_h c B F A J) (some (.int r), m_h c B F' A' J') := by
  intro hD
  unfold d_termOf at hD
  refine k_runB (pc' := 5) (loc' := [(0, .ref 40960), (1, .int x1), (2, .int x2), (3, .int 0), (4, .int x1)]) (st' := []) 4 rfl ?_
  refine k_wk [0, 2, 3, 4] (loc' := [(0, .ref 40960), (2, .int x2), (3, .int 0), (4, .int x1)]) rfl rfl ?_
  exact t_d_termOf_5 ht  hD
/-- SleepWorkModel.in(III)Z -/
def d_in (x0 : Int32) (x1 : Int32) (x2 : Int32) : Option Int32 :=
  cond (g_cnd .lt x0 x1)
  (some (0))
  (cond (g_cnd .gt x0 x2)
  (some (0))
  (some (1)))
theorem t_d_in {x0 : Int32} {x1 : Int32} {x2 : Int32} {r : Int32} : d_in x0 x1 x2 = some r → k_run t lg (d) 177 0 [(0, .int x0), (1, .int x1), (2, .int x2)] [] (m_h c B F A J) (some (.int r), m_h c B F A J) := by
  intro hD
  unfold d_in at hD
  refine k_runB (pc' := 2) (loc' := [(0, .int x0), (1, .int x1), (2, .int x2)]) (st' := [.int x1, .int x0]) 2 rfl ?_
  refine k_ic rfl (fun c2_0 => ?_) (fun c2_0 => ?_)
  · rw [c2_0, cond_true] at hD
    refine k_runB (pc' := 15) (loc' := [(0, .int x0), (1, .int x1), (2, .int x2)]) (st' := [.int 0]) 1 rfl ?_
    cases hD
    exact k_zret rfl rfl (Or.inl rfl)
  · rw [c2_0, cond_false] at hD
    refine k_runB (pc' := 7) (loc' := [(0, .int x0), (1, .int x1), (2, .int x2)]) (st' := [.int x2, .int x0]) 2 rfl ?_
    refine k_ic rfl (fun c7_1 => ?_) (fun c7_1 => ?_)
    · rw [c7_1, cond_true] at hD
      refine k_runB (pc' := 15) (loc' := [(0, .int x0), (1, .int x1), (2, .int x2)]) (st' := [.int 0]) 1 rfl ?_
      cases hD
      exact k_zret rfl rfl (Or.inl rfl)
    · rw [c7_1, cond_false] at hD
      refine k_runB (pc' := 15) (loc' := [(0, .int x0), (1, .int x1), (2, .int x2)]) (st' := [.int 1]) 2 rfl ?_
      cases hD
      exact k_zret rfl rfl (Or.inr rfl)
/-- SleepWorkModel.tasksNow()I -/
def d_tasksNow (F : Nat → Int32) (A : Nat → Nat → Int32) (J : Nat → Nat → Int64) : Option Int32 :=
  (m_ld (A 19) 2 (F 18)).bind fun v1 =>
  some (v1)
theorem t_d_tasksNow {r : Int32} : d_tasksNow F A J = some r → k_run t lg (d) 178 0 [(0, .ref 40960)] [] (m_h c B F A J) (some (.int r), m_h c B F A J) := by
  intro hD
  unfold d_tasksNow at hD
  refine k_runB (pc' := 8) (loc' := [(0, .ref 40960)]) (st' := [.int (F 18), .ref 40979]) 4 rfl ?_
  obtain ⟨v1, hv1, hD⟩ := Option.bind_eq_some_iff.mp hD
  refine k_ldI rfl rfl hv1 ?_
  cases hD
  exact k_iret rfl rfl
/-- SleepWorkModel.menNow()I -/
def d_menNow (F : Nat → Int32) (A : Nat → Nat → Int32) (J : Nat → Nat → Int64) : Option Int32 :=
  (m_ld (A 29) 2 (F 18)).bind fun v1 =>
  some (v1)
theorem t_d_menNow {r : Int32} : d_menNow F A J = some r → k_run t lg (d) 179 0 [(0, .ref 40960)] [] (m_h c B F A J) (some (.int r), m_h c B F A J) := by
  intro hD
  unfold d_menNow at hD
  refine k_runB (pc' := 8) (loc' := [(0, .ref 40960)]) (st' := [.int (F 18), .ref 40989]) 4 rfl ?_
  obtain ⟨v1, hv1, hD⟩ := Option.bind_eq_some_iff.mp hD
  refine k_ldI rfl rfl hv1 ?_
  cases hD
  exact k_iret rfl rfl
/-- SleepWorkModel.stepsOf(I)I -/
def d_stepsOf (F : Nat → Int32) (A : Nat → Nat → Int32) (J : Nat → Nat → Int64) (x1 : Int32) : Option Int32 :=
  (m_ld (A 22) 12 ((6 * (F 18)) + x1)).bind fun v1 =>
  some (v1)
theorem t_d_stepsOf {x1 : Int32} {r : Int32} : d_stepsOf F A J x1 = some r → k_run t lg (d) 180 0 [(0, .ref 40960), (1, .int x1)] [] (m_h c B F A J) (some (.int r), m_h c B F A J) := by
  intro hD
  unfold d_stepsOf at hD
  refine k_runB (pc' := 13) (loc' := [(0, .ref 40960), (1, .int x1)]) (st' := [.int ((6 * (F 18)) + x1), .ref 40982]) 8 rfl ?_
  obtain ⟨v1, hv1, hD⟩ := Option.bind_eq_some_iff.mp hD
  refine k_ldI rfl rfl hv1 ?_
  cases hD
  exact k_iret rfl rfl
/-- SleepWorkModel.stepAt(II)I -/
def d_stepAt (F : Nat → Int32) (A : Nat → Nat → Int32) (J : Nat → Nat → Int64) (x1 : Int32) (x2 : Int32) : Option Int32 :=
  some ((6 * ((6 * (F 18)) + x1)) + x2)
theorem t_d_stepAt {x1 : Int32} {x2 : Int32} {r : Int32} : d_stepAt F A J x1 x2 = some r → k_run t lg (d) 181 0 [(0, .ref 40960), (1, .int x1), (2, .int x2)] [] (m_h c B F A J) (some (.int r), m_h c B F A J) := by
  intro hD
  unfold d_stepAt at hD
  refine k_runB (pc' := 14) (loc' := [(0, .ref 40960), (1, .int x1), (2, .int x2)]) (st' := [.int ((6 * ((6 * (F 18)) + x1)) + x2)]) 10 rfl ?_
  cases hD
  exact k_iret rfl rfl
/-- SleepWorkModel.isTask(I)Z -/
def d_isTask (F : Nat → Int32) (A : Nat → Nat → Int32) (J : Nat → Nat → Int64) (x1 : Int32) : Option Int32 :=
  (d_tasksNow F A J).bind fun v1 =>
  (d_in x1 0 (v1 - 1)).bind fun v2 =>
  (m_zr v2).bind fun v3 => some (v3)
theorem t_d_isTask {x1 : Int32} {r : Int32} : d_isTask F A J x1 = some r → k_run t lg (d + 1) 182 0 [(0, .ref 40960), (1, .int x1)] [] (m_h c B F A J) (some (.int r), m_h c B F A J) := by
  intro hD
  unfold d_isTask at hD
  refine k_runB (pc' := 3) (loc' := [(0, .ref 40960), (1, .int x1)]) (st' := [.ref 40960, .int 0, .int x1]) 3 rfl ?_
  obtain ⟨v1, hv1, hD⟩ := Option.bind_eq_some_iff.mp hD
  refine k_runC rfl rfl rfl rfl (t_d_tasksNow (d := d) hv1) ?_
  refine k_runB (pc' := 8) (loc' := [(0, .ref 40960), (1, .int x1)]) (st' := [.int (v1 - 1), .int 0, .int x1]) 2 rfl ?_
  obtain ⟨v2, hv2, hD⟩ := Option.bind_eq_some_iff.mp hD
  refine k_runC rfl rfl rfl rfl (t_d_in (d := d) hv2) ?_
  obtain ⟨v3, hv3, hD⟩ := Option.bind_eq_some_iff.mp hD
  obtain ⟨gv3, rfl⟩ := m_zr_ok hv3
  cases hD
  exact k_zret rfl rfl gv3
/-- SleepWorkModel.isStep(II)Z -/
def d_isStep (F : Nat → Int32) (A : Nat → Nat → Int32) (J : Nat → Nat → Int64) (x1 : Int32) (x2 : Int32) : Option Int32 :=
  (d_isTask F A J x1).bind fun v1 =>
  cond (g_cnd .eq v1 0)
  (some (0))
  ((d_stepsOf F A J x1).bind fun v3 =>
  (d_in x2 0 (v3 - 1)).bind fun v4 =>
  cond (g_cnd .eq v4 0)
  (some (0))
  (some (1)))
theorem t_d_isStep {x1 : Int32} {x2 : Int32} {r : Int32} : d_isStep F A J x1 x2 = some r → k_run t lg (d + 2) 183 0 [(0, .ref 40960), (1, .int x1), (2, .int x2)] [] (m_h c B F A J) (some (.int r), m_h c B F A J) := by
  intro hD
  unfold d_isStep at hD
  refine k_runB (pc' := 2) (loc' := [(0, .ref 40960), (1, .int x1), (2, .int x2)]) (st' := [.int x1, .ref 40960]) 2 rfl ?_
  obtain ⟨v1, hv1, hD⟩ := Option.bind_eq_some_iff.mp hD
  refine k_runC rfl rfl rfl rfl (t_d_isTask (d := d) hv1) ?_
  refine k_if rfl (fun c5_1 => ?_) (fun c5_1 => ?_)
  · rw [c5_1, cond_true] at hD
    refine k_runB (pc' := 28) (loc' := [(0, .ref 40960), (1, .int x1), (2, .int x2)]) (st' := [.int 0]) 1 rfl ?_
    cases hD
    exact k_zret rfl rfl (Or.inl rfl)
  · rw [c5_1, cond_false] at hD
    refine k_runB (pc' := 12) (loc' := [(0, .ref 40960), (1, .int x1), (2, .int x2)]) (st' := [.int x1, .ref 40960, .int 0, .int x2]) 4 rfl ?_
    obtain ⟨v3, hv3, hD⟩ := Option.bind_eq_some_iff.mp hD
    refine k_runC rfl rfl rfl rfl (t_d_stepsOf (d := d + 1) hv3) ?_
    refine k_runB (pc' := 17) (loc' := [(0, .ref 40960), (1, .int x1), (2, .int x2)]) (st' := [.int (v3 - 1), .int 0, .int x2]) 2 rfl ?_
    obtain ⟨v4, hv4, hD⟩ := Option.bind_eq_some_iff.mp hD
    refine k_runC rfl rfl rfl rfl (t_d_in (d := d + 1) hv4) ?_
    refine k_if rfl (fun c20_4 => ?_) (fun c20_4 => ?_)
    · rw [c20_4, cond_true] at hD
      refine k_runB (pc' := 28) (loc' := [(0, .ref 40960), (1, .int x1), (2, .int x2)]) (st' := [.int 0]) 1 rfl ?_
      cases hD
      exact k_zret rfl rfl (Or.inl rfl)
    · rw [c20_4, cond_false] at hD
      refine k_runB (pc' := 28) (loc' := [(0, .ref 40960), (1, .int x1), (2, .int x2)]) (st' := [.int 1]) 2 rfl ?_
      cases hD
      exact k_zret rfl rfl (Or.inr rfl)
/-- SleepWorkModel.isMan(I)Z -/
def d_isMan (F : Nat → Int32) (A : Nat → Nat → Int32) (J : Nat → Nat → Int64) (x1 : Int32) : Option Int32 :=
  (d_menNow F A J).bind fun v1 =>
  (d_in x1 0 (v1 - 1)).bind fun v2 =>
  (m_zr v2).bind fun v3 => some (v3)
theorem t_d_isMan {x1 : Int32} {r : Int32} : d_isMan F A J x1 = some r → k_run t lg (d + 1) 184 0 [(0, .ref 40960), (1, .int x1)] [] (m_h c B F A J) (some (.int r), m_h c B F A J) := by
  intro hD
  unfold d_isMan at hD
  refine k_runB (pc' := 3) (loc' := [(0, .ref 40960), (1, .int x1)]) (st' := [.ref 40960, .int 0, .int x1]) 3 rfl ?_
  obtain ⟨v1, hv1, hD⟩ := Option.bind_eq_some_iff.mp hD
  refine k_runC rfl rfl rfl rfl (t_d_menNow (d := d) hv1) ?_
  refine k_runB (pc' := 8) (loc' := [(0, .ref 40960), (1, .int x1)]) (st' := [.int (v1 - 1), .int 0, .int x1]) 2 rfl ?_
  obtain ⟨v2, hv2, hD⟩ := Option.bind_eq_some_iff.mp hD
  refine k_runC rfl rfl rfl rfl (t_d_in (d := d) hv2) ?_
  obtain ⟨v3, hv3, hD⟩ := Option.bind_eq_some_iff.mp hD
  obtain ⟨gv3, rfl⟩ := m_zr_ok hv3
  cases hD
  exact k_zret rfl rfl gv3
/-- SleepWorkModel.isRoom(I)Z -/
def d_isRoom (F : Nat → Int32) (A : Nat → Nat → Int32) (J : Nat → Nat → Int64) (x1 : Int32) : Option Int32 :=
  (m_ld (A 11) 2 (F 18)).bind fun v1 =>
  (d_in x1 0 (v1 - 1)).bind fun v2 =>
  (m_zr v2).bind fun v3 => some (v3)
theorem t_d_isRoom {x1 : Int32} {r : Int32} : d_isRoom F A J x1 = some r → k_run t lg (d + 1) 185 0 [(0, .ref 40960), (1, .int x1)] [] (m_h c B F A J) (some (.int r), m_h c B F A J) := by
  intro hD
  unfold d_isRoom at hD
  refine k_runB (pc' := 10) (loc' := [(0, .ref 40960), (1, .int x1)]) (st' := [.int (F 18), .ref 40971, .int 0, .int x1]) 6 rfl ?_
  obtain ⟨v1, hv1, hD⟩ := Option.bind_eq_some_iff.mp hD
  refine k_ldI rfl rfl hv1 ?_
  refine k_runB (pc' := 13) (loc' := [(0, .ref 40960), (1, .int x1)]) (st' := [.int (v1 - 1), .int 0, .int x1]) 2 rfl ?_
  obtain ⟨v2, hv2, hD⟩ := Option.bind_eq_some_iff.mp hD
  refine k_runC rfl rfl rfl rfl (t_d_in (d := d) hv2) ?_
  obtain ⟨v3, hv3, hD⟩ := Option.bind_eq_some_iff.mp hD
  obtain ⟨gv3, rfl⟩ := m_zr_ok hv3
  cases hD
  exact k_zret rfl rfl gv3
/-- SleepWorkModel.isTool(I)Z -/
def d_isTool (F : Nat → Int32) (A : Nat → Nat → Int32) (J : Nat → Nat → Int64) (x1 : Int32) : Option Int32 :=
  (m_ld (A 17) 2 (F 18)).bind fun v1 =>
  (d_in x1 0 (v1 - 1)).bind fun v2 =>
  (m_zr v2).bind fun v3 => some (v3)
theorem t_d_isTool {x1 : Int32} {r : Int32} : d_isTool F A J x1 = some r → k_run t lg (d + 1) 186 0 [(0, .ref 40960), (1, .int x1)] [] (m_h c B F A J) (some (.int r), m_h c B F A J) := by
  intro hD
  unfold d_isTool at hD
  refine k_runB (pc' := 10) (loc' := [(0, .ref 40960), (1, .int x1)]) (st' := [.int (F 18), .ref 40977, .int 0, .int x1]) 6 rfl ?_
  obtain ⟨v1, hv1, hD⟩ := Option.bind_eq_some_iff.mp hD
  refine k_ldI rfl rfl hv1 ?_
  refine k_runB (pc' := 13) (loc' := [(0, .ref 40960), (1, .int x1)]) (st' := [.int (v1 - 1), .int 0, .int x1]) 2 rfl ?_
  obtain ⟨v2, hv2, hD⟩ := Option.bind_eq_some_iff.mp hD
  refine k_runC rfl rfl rfl rfl (t_d_in (d := d) hv2) ?_
  obtain ⟨v3, hv3, hD⟩ := Option.bind_eq_some_iff.mp hD
  obtain ⟨gv3, rfl⟩ := m_zr_ok hv3
  cases hD
  exact k_zret rfl rfl gv3
def d_begins_219 (K176 : (Nat → Int32) → (Nat → Nat → Int32) → (Nat → Nat → Int64) → Int32 → Option (Unit × (Nat → Int32) × (Nat → Nat → Int32) × (Nat → Nat → Int64))) (n : Nat) (F : Nat → Int32) (A : Nat → Nat → Int32) (J : Nat → Nat → Int64) (x1 : Int32) : Option (Unit × (Nat → Int32) × (Nat → Nat → Int32) × (Nat → Nat → Int64)) :=
    K176 F A J (x1 + 1)
theorem t_d_begins_219 {n : Nat} {K176 : (Nat → Int32) → (Nat → Nat → Int32) → (Nat → Nat → Int64) → Int32 → Option (Unit × (Nat → Int32) × (Nat → Nat → Int32) × (Nat → Nat → Int64))} (hK176 : ∀ (F : Nat → Int32) (A : Nat → Nat → Int32) (J : Nat → Nat → Int64) (x1 : Int32) (w : Unit × (Nat → Int32) × (Nat → Nat → Int32) × (Nat → Nat → Int64)), K176 F A J x1 = some w → k_run t lg (d + 1) 187 176 [(0, .ref 40960), (1, .int x1)] [] (m_h c B F A J) (none, m_h c B w.2.1 w.2.2.1 w.2.2.2)) {F : Nat → Int32} {A : Nat → Nat → Int32} {J : Nat → Nat → Int64} {x1 : Int32} {w : Unit × (Nat → Int32) × (Nat → Nat → Int32) × (Nat → Nat → Int64)} : d_begins_219 K176 n F A J x1 = some w → k_run t lg (d + 1) 187 219 [(0, .ref 40960), (1, .int x1)] [] (m_h c B F A J) (none, m_h c B w.2.1 w.2.2.1 w.2.2.2) := by
  intro hD
  unfold d_begins_219 at hD
  refine k_runB (pc' := 176) (loc' := [(0, .ref 40960), (1, .int (x1 + 1))]) (st' := []) 2 rfl ?_
  refine k_wk [0, 1] (loc' := [(0, .ref 40960), (1, .int (x1 + 1))]) rfl rfl ?_
  exact hK176 _ _ _ _ _ hD
def d_begins_176 : Nat → (Nat → Int32) → (Nat → Nat → Int32) → (Nat → Nat → Int64) → Int32 → Option (Unit × (Nat → Int32) × (Nat → Nat → Int32) × (Nat → Nat → Int64))
  | 0, _, _, _, _ => none
  | n + 1, F, A, J, x1 => (m_ld (A 12) 2 (F 18)).bind fun v18 =>
    cond (g_cnd .ge x1 v18)
    (some ((), F, A, J))
    ((m_ld (A 16) 24 ((12 * (F 18)) + x1)).bind fun v20 =>
    cond (g_cnd .eq v20 0)
    (d_begins_219 (d_begins_176 n) n F A J x1)
    ((m_ld (A 47) 100 78).bind fun v22 =>
    (m_st A 47 100 78 (v22 ||| (1 <<< (x1 &&& 31)))).bind fun A23 =>
    (d_begins_176 n) F A23 J (x1 + 1)))
theorem t_d_begins_176 {n : Nat}  {F : Nat → Int32} {A : Nat → Nat → Int32} {J : Nat → Nat → Int64} {x1 : Int32} {w : Unit × (Nat → Int32) × (Nat → Nat → Int32) × (Nat → Nat → Int64)} : d_begins_176 n F A J x1 = some w → k_run t lg (d + 1) 187 176 [(0, .ref 40960), (1, .int x1)] [] (m_h c B F A J) (none, m_h c B w.2.1 w.2.2.1 w.2.2.2) := by
  induction n generalizing F A J x1 w with
  | zero => intro hD; cases hD
  | succ n ih =>
    intro hD
    have hK176 : ∀ (F : Nat → Int32) (A : Nat → Nat → Int32) (J : Nat → Nat → Int64) (x1 : Int32) (w : Unit × (Nat → Int32) × (Nat → Nat → Int32) × (Nat → Nat → Int64)), d_begins_176 n F A J x1 = some w → k_run t lg (d + 1) 187 176 [(0, .ref 40960), (1, .int x1)] [] (m_h c B F A J) (none, m_h c B w.2.1 w.2.2.1 w.2.2.2) := fun _ _ _ _ _ h => ih h
    unfold d_begins_176 at hD
    refine k_runB (pc' := 185) (loc' := [(0, .ref 40960), (1, .int x1)]) (st' := [.int (F 18), .ref 40972, .int x1]) 5 rfl ?_
    obtain ⟨v18, hv18, hD⟩ := Option.bind_eq_some_iff.mp hD
    refine k_ldI rfl rfl hv18 ?_
    refine k_ic rfl (fun c186_18 => ?_) (fun c186_18 => ?_)
    · rw [c186_18, cond_true] at hD
      cases hD
      exact k_vret rfl rfl
    · rw [c186_18, cond_false] at hD
      refine k_runB (pc' := 202) (loc' := [(0, .ref 40960), (1, .int x1)]) (st' := [.int ((12 * (F 18)) + x1), .ref 40976]) 8 rfl ?_
      obtain ⟨v20, hv20, hD⟩ := Option.bind_eq_some_iff.mp hD
      refine k_ldZ rfl rfl hv20 ?_
      refine k_if rfl (fun c203_20 => ?_) (fun c203_20 => ?_)
      · rw [c203_20, cond_true] at hD
        refine k_wk [0, 1] (loc' := [(0, .ref 40960), (1, .int x1)]) rfl rfl ?_
        exact t_d_begins_219 hK176 hD
      · rw [c203_20, cond_false] at hD
        refine k_runB (pc' := 213) (loc' := [(0, .ref 40960), (1, .int x1)]) (st' := [.int 78, .ref 41007, .int 78, .ref 41007]) 4 rfl ?_
        obtain ⟨v22, hv22, hD⟩ := Option.bind_eq_some_iff.mp hD
        refine k_ldI rfl rfl hv22 ?_
        refine k_runB (pc' := 218) (loc' := [(0, .ref 40960), (1, .int x1)]) (st' := [.int (v22 ||| (1 <<< (x1 &&& 31))), .int 78, .ref 41007]) 4 rfl ?_
        obtain ⟨A23, hA23, hD⟩ := Option.bind_eq_some_iff.mp hD
        refine k_stI 47 rfl rfl (fun _ => rfl) hA23 ?_
        refine k_runB (pc' := 176) (loc' := [(0, .ref 40960), (1, .int (x1 + 1))]) (st' := []) 2 rfl ?_
        refine k_wk [0, 1] (loc' := [(0, .ref 40960), (1, .int (x1 + 1))]) rfl rfl ?_
        exact hK176 _ _ _ _ _ hD
def d_begins_132 : Nat → (Nat → Int32) → (Nat → Nat → Int32) → (Nat → Nat → Int64) → Int32 → Option (Unit × (Nat → Int32) × (Nat → Nat → Int32) × (Nat → Nat → Int64))
  | 0, _, _, _, _ => none
  | n + 1, F, A, J, x1 => (m_ld (A 17) 2 (F 18)).bind fun v14 =>
    cond (g_cnd .ge x1 v14)
    (d_begins_176 n F A J 0)
    ((m_ld (A 18) 12 ((6 * (F 18)) + x1)).bind fun v16 =>
    (m_st A 47 100 (72 + x1) v16).bind fun A17 =>
    (d_begins_132 n) F A17 J (x1 + 1))
theorem t_d_begins_132 {n : Nat}  {F : Nat → Int32} {A : Nat → Nat → Int32} {J : Nat → Nat → Int64} {x1 : Int32} {w : Unit × (Nat → Int32) × (Nat → Nat → Int32) × (Nat → Nat → Int64)} : d_begins_132 n F A J x1 = some w → k_run t lg (d + 1) 187 132 [(0, .ref 40960), (1, .int x1)] [] (m_h c B F A J) (none, m_h c B w.2.1 w.2.2.1 w.2.2.2) := by
  induction n generalizing F A J x1 w with
  | zero => intro hD; cases hD
  | succ n ih =>
    intro hD
    have hK132 : ∀ (F : Nat → Int32) (A : Nat → Nat → Int32) (J : Nat → Nat → Int64) (x1 : Int32) (w : Unit × (Nat → Int32) × (Nat → Nat → Int32) × (Nat → Nat → Int64)), d_begins_132 n F A J x1 = some w → k_run t lg (d + 1) 187 132 [(0, .ref 40960), (1, .int x1)] [] (m_h c B F A J) (none, m_h c B w.2.1 w.2.2.1 w.2.2.2) := fun _ _ _ _ _ h => ih h
    unfold d_begins_132 at hD
    refine k_runB (pc' := 141) (loc' := [(0, .ref 40960), (1, .int x1)]) (st' := [.int (F 18), .ref 40977, .int x1]) 5 rfl ?_
    obtain ⟨v14, hv14, hD⟩ := Option.bind_eq_some_iff.mp hD
    refine k_ldI rfl rfl hv14 ?_
    refine k_ic rfl (fun c142_14 => ?_) (fun c142_14 => ?_)
    · rw [c142_14, cond_true] at hD
      refine k_runB (pc' := 176) (loc' := [(0, .ref 40960), (1, .int 0)]) (st' := []) 2 rfl ?_
      refine k_wk [0, 1] (loc' := [(0, .ref 40960), (1, .int 0)]) rfl rfl ?_
      exact t_d_begins_176  hD
    · rw [c142_14, cond_false] at hD
      refine k_runB (pc' := 166) (loc' := [(0, .ref 40960), (1, .int x1)]) (st' := [.int ((6 * (F 18)) + x1), .ref 40978, .int (72 + x1), .ref 41007]) 13 rfl ?_
      obtain ⟨v16, hv16, hD⟩ := Option.bind_eq_some_iff.mp hD
      refine k_ldI rfl rfl hv16 ?_
      obtain ⟨A17, hA17, hD⟩ := Option.bind_eq_some_iff.mp hD
      refine k_stI 47 rfl rfl (fun _ => rfl) hA17 ?_
      refine k_runB (pc' := 132) (loc' := [(0, .ref 40960), (1, .int (x1 + 1))]) (st' := []) 2 rfl ?_
      refine k_wk [0, 1] (loc' := [(0, .ref 40960), (1, .int (x1 + 1))]) rfl rfl ?_
      exact hK132 _ _ _ _ _ hD
def d_begins_59 : Nat → (Nat → Int32) → (Nat → Nat → Int32) → (Nat → Nat → Int64) → Int32 → Option (Unit × (Nat → Int32) × (Nat → Nat → Int32) × (Nat → Nat → Int64))
  | 0, _, _, _, _ => none
  | n + 1, F, A, J, x1 => (d_menNow F A J).bind fun v7 =>
    cond (g_cnd .ge x1 v7)
    (d_begins_132 n F A J 0)
    ((m_ld (A 31) 12 ((6 * (F 18)) + x1)).bind fun v9 =>
    (m_st A 47 100 (42 + x1) v9).bind fun A10 =>
    (m_ld (A10 32) 12 ((6 * (F 18)) + x1)).bind fun v11 =>
    (m_st A10 47 100 (48 + x1) v11).bind fun A12 =>
    (m_st A12 47 100 (66 + x1) ((-2))).bind fun A13 =>
    (d_begins_59 n) F A13 J (x1 + 1))
theorem t_d_begins_59 {n : Nat}  {F : Nat → Int32} {A : Nat → Nat → Int32} {J : Nat → Nat → Int64} {x1 : Int32} {w : Unit × (Nat → Int32) × (Nat → Nat → Int32) × (Nat → Nat → Int64)} : d_begins_59 n F A J x1 = some w → k_run t lg (d + 1) 187 59 [(0, .ref 40960), (1, .int x1)] [] (m_h c B F A J) (none, m_h c B w.2.1 w.2.2.1 w.2.2.2) := by
  induction n generalizing F A J x1 w with
  | zero => intro hD; cases hD
  | succ n ih =>
    intro hD
    have hK59 : ∀ (F : Nat → Int32) (A : Nat → Nat → Int32) (J : Nat → Nat → Int64) (x1 : Int32) (w : Unit × (Nat → Int32) × (Nat → Nat → Int32) × (Nat → Nat → Int64)), d_begins_59 n F A J x1 = some w → k_run t lg (d + 1) 187 59 [(0, .ref 40960), (1, .int x1)] [] (m_h c B F A J) (none, m_h c B w.2.1 w.2.2.1 w.2.2.2) := fun _ _ _ _ _ h => ih h
    unfold d_begins_59 at hD
    refine k_runB (pc' := 61) (loc' := [(0, .ref 40960), (1, .int x1)]) (st' := [.ref 40960, .int x1]) 2 rfl ?_
    obtain ⟨v7, hv7, hD⟩ := Option.bind_eq_some_iff.mp hD
    refine k_runC rfl rfl rfl rfl (t_d_menNow (d := d) hv7) ?_
    refine k_ic rfl (fun c64_7 => ?_) (fun c64_7 => ?_)
    · rw [c64_7, cond_true] at hD
      refine k_runB (pc' := 132) (loc' := [(0, .ref 40960), (1, .int 0)]) (st' := []) 2 rfl ?_
      refine k_wk [0, 1] (loc' := [(0, .ref 40960), (1, .int 0)]) rfl rfl ?_
      exact t_d_begins_132  hD
    · rw [c64_7, cond_false] at hD
      refine k_runB (pc' := 88) (loc' := [(0, .ref 40960), (1, .int x1)]) (st' := [.int ((6 * (F 18)) + x1), .ref 40991, .int (42 + x1), .ref 41007]) 13 rfl ?_
      obtain ⟨v9, hv9, hD⟩ := Option.bind_eq_some_iff.mp hD
      refine k_ldI rfl rfl hv9 ?_
      obtain ⟨A10, hA10, hD⟩ := Option.bind_eq_some_iff.mp hD
      refine k_stI 47 rfl rfl (fun _ => rfl) hA10 ?_
      refine k_runB (pc' := 111) (loc' := [(0, .ref 40960), (1, .int x1)]) (st' := [.int ((6 * (F 18)) + x1), .ref 40992, .int (48 + x1), .ref 41007]) 13 rfl ?_
      obtain ⟨v11, hv11, hD⟩ := Option.bind_eq_some_iff.mp hD
      refine k_ldI rfl rfl hv11 ?_
      obtain ⟨A12, hA12, hD⟩ := Option.bind_eq_some_iff.mp hD
      refine k_stI 47 rfl rfl (fun _ => rfl) hA12 ?_
      refine k_runB (pc' := 123) (loc' := [(0, .ref 40960), (1, .int x1)]) (st' := [.int ((-2)), .int (66 + x1), .ref 41007]) 6 rfl ?_
      obtain ⟨A13, hA13, hD⟩ := Option.bind_eq_some_iff.mp hD
      refine k_stI 47 rfl rfl (fun _ => rfl) hA13 ?_
      refine k_runB (pc' := 59) (loc' := [(0, .ref 40960), (1, .int (x1 + 1))]) (st' := []) 2 rfl ?_
      refine k_wk [0, 1] (loc' := [(0, .ref 40960), (1, .int (x1 + 1))]) rfl rfl ?_
      exact hK59 _ _ _ _ _ hD
def d_begins_23 : Nat → (Nat → Int32) → (Nat → Nat → Int32) → (Nat → Nat → Int64) → Int32 → Option (Unit × (Nat → Int32) × (Nat → Nat → Int32) × (Nat → Nat → Int64))
  | 0, _, _, _, _ => none
  | n + 1, F, A, J, x1 => (d_tasksNow F A J).bind fun v3 =>
    cond (g_cnd .ge x1 v3)
    (d_begins_59 n F A J 0)
    ((m_ld (A 21) 12 ((6 * (F 18)) + x1)).bind fun v5 =>
    (m_st A 47 100 x1 v5).bind fun A6 =>
    (d_begins_23 n) F A6 J (x1 + 1))
theorem t_d_begins_23 {n : Nat}  {F : Nat → Int32} {A : Nat → Nat → Int32} {J : Nat → Nat → Int64} {x1 : Int32} {w : Unit × (Nat → Int32) × (Nat → Nat → Int32) × (Nat → Nat → Int64)} : d_begins_23 n F A J x1 = some w → k_run t lg (d + 1) 187 23 [(0, .ref 40960), (1, .int x1)] [] (m_h c B F A J) (none, m_h c B w.2.1 w.2.2.1 w.2.2.2) := by
  induction n generalizing F A J x1 w with
  | zero => intro hD; cases hD
  | succ n ih =>
    intro hD
    have hK23 : ∀ (F : Nat → Int32) (A : Nat → Nat → Int32) (J : Nat → Nat → Int64) (x1 : Int32) (w : Unit × (Nat → Int32) × (Nat → Nat → Int32) × (Nat → Nat → Int64)), d_begins_23 n F A J x1 = some w → k_run t lg (d + 1) 187 23 [(0, .ref 40960), (1, .int x1)] [] (m_h c B F A J) (none, m_h c B w.2.1 w.2.2.1 w.2.2.2) := fun _ _ _ _ _ h => ih h
    unfold d_begins_23 at hD
    refine k_runB (pc' := 25) (loc' := [(0, .ref 40960), (1, .int x1)]) (st' := [.ref 40960, .int x1]) 2 rfl ?_
    obtain ⟨v3, hv3, hD⟩ := Option.bind_eq_some_iff.mp hD
    refine k_runC rfl rfl rfl rfl (t_d_tasksNow (d := d) hv3) ?_
    refine k_ic rfl (fun c28_3 => ?_) (fun c28_3 => ?_)
    · rw [c28_3, cond_true] at hD
      refine k_runB (pc' := 59) (loc' := [(0, .ref 40960), (1, .int 0)]) (st' := []) 2 rfl ?_
      refine k_wk [0, 1] (loc' := [(0, .ref 40960), (1, .int 0)]) rfl rfl ?_
      exact t_d_begins_59  hD
    · rw [c28_3, cond_false] at hD
      refine k_runB (pc' := 49) (loc' := [(0, .ref 40960), (1, .int x1)]) (st' := [.int ((6 * (F 18)) + x1), .ref 40981, .int x1, .ref 41007]) 11 rfl ?_
      obtain ⟨v5, hv5, hD⟩ := Option.bind_eq_some_iff.mp hD
      refine k_ldI rfl rfl hv5 ?_
      obtain ⟨A6, hA6, hD⟩ := Option.bind_eq_some_iff.mp hD
      refine k_stI 47 rfl rfl (fun _ => rfl) hA6 ?_
      refine k_runB (pc' := 23) (loc' := [(0, .ref 40960), (1, .int (x1 + 1))]) (st' := []) 2 rfl ?_
      refine k_wk [0, 1] (loc' := [(0, .ref 40960), (1, .int (x1 + 1))]) rfl rfl ?_
      exact hK23 _ _ _ _ _ hD
def d_begins_2 : Nat → (Nat → Int32) → (Nat → Nat → Int32) → (Nat → Nat → Int64) → Int32 → Option (Unit × (Nat → Int32) × (Nat → Nat → Int32) × (Nat → Nat → Int64))
  | 0, _, _, _, _ => none
  | n + 1, F, A, J, x1 => cond (g_cnd .ge x1 100)
    (d_begins_23 n F A J 0)
    ((m_st A 47 100 x1 0).bind fun A2 =>
    (d_begins_2 n) F A2 J (x1 + 1))
theorem t_d_begins_2 {n : Nat}  {F : Nat → Int32} {A : Nat → Nat → Int32} {J : Nat → Nat → Int64} {x1 : Int32} {w : Unit × (Nat → Int32) × (Nat → Nat → Int32) × (Nat → Nat → Int64)} : d_begins_2 n F A J x1 = some w → k_run t lg (d + 1) 187 2 [(0, .ref 40960), (1, .int x1)] [] (m_h c B F A J) (none, m_h c B w.2.1 w.2.2.1 w.2.2.2) := by
  induction n generalizing F A J x1 w with
  | zero => intro hD; cases hD
  | succ n ih =>
    intro hD
    have hK2 : ∀ (F : Nat → Int32) (A : Nat → Nat → Int32) (J : Nat → Nat → Int64) (x1 : Int32) (w : Unit × (Nat → Int32) × (Nat → Nat → Int32) × (Nat → Nat → Int64)), d_begins_2 n F A J x1 = some w → k_run t lg (d + 1) 187 2 [(0, .ref 40960), (1, .int x1)] [] (m_h c B F A J) (none, m_h c B w.2.1 w.2.2.1 w.2.2.2) := fun _ _ _ _ _ h => ih h
    unfold d_begins_2 at hD
    refine k_runB (pc' := 5) (loc' := [(0, .ref 40960), (1, .int x1)]) (st' := [.int 100, .int x1]) 2 rfl ?_
    refine k_ic rfl (fun c5_0 => ?_) (fun c5_0 => ?_)
    · rw [c5_0, cond_true] at hD
      refine k_runB (pc' := 23) (loc' := [(0, .ref 40960), (1, .int 0)]) (st' := []) 2 rfl ?_
      refine k_wk [0, 1] (loc' := [(0, .ref 40960), (1, .int 0)]) rfl rfl ?_
      exact t_d_begins_23  hD
    · rw [c5_0, cond_false] at hD
      refine k_runB (pc' := 14) (loc' := [(0, .ref 40960), (1, .int x1)]) (st' := [.int 0, .int x1, .ref 41007]) 4 rfl ?_
      obtain ⟨A2, hA2, hD⟩ := Option.bind_eq_some_iff.mp hD
      refine k_stI 47 rfl rfl (fun _ => rfl) hA2 ?_
      refine k_runB (pc' := 2) (loc' := [(0, .ref 40960), (1, .int (x1 + 1))]) (st' := []) 2 rfl ?_
      refine k_wk [0, 1] (loc' := [(0, .ref 40960), (1, .int (x1 + 1))]) rfl rfl ?_
      exact hK2 _ _ _ _ _ hD
/-- SleepWorkModel.begins()V -/
def d_begins (n : Nat) (F : Nat → Int32) (A : Nat → Nat → Int32) (J : Nat → Nat → Int64) : Option (Unit × (Nat → Int32) × (Nat → Nat → Int32) × (Nat → Nat → Int64)) :=
  d_begins_2 n F A J 0
theorem t_d_begins {n : Nat} {r : Unit} {F' : Nat → Int32} {A' : Nat → Nat → Int32} {J' : Nat → Nat → Int64} : d_begins n F A J = some (r, F', A', J') → k_run t lg (d + 1) 187 0 [(0, .ref 40960)] [] (m_h c B F A J) (none, m_h c B F' A' J') := by
  intro hD
  unfold d_begins at hD
  refine k_runB (pc' := 2) (loc' := [(0, .ref 40960), (1, .int 0)]) (st' := []) 2 rfl ?_
  refine k_wk [0, 1] (loc' := [(0, .ref 40960), (1, .int 0)]) rfl rfl ?_
  exact t_d_begins_2  hD
end MD
end Qz3
