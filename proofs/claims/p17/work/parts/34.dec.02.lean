/-! the reference's methods as functions (printed by wip/dec.py) -/
section MD
variable {t : gT} {lg : Nat → Nat} {d : Nat} {c : Nat × Nat} {B : Nat → List gE} {F : Nat → Int32} {A : Nat → Nat → Int32} {J : Nat → Nat → Int64}
/-- SleepWorkModel.emit(II)V -/
def d_emit (F : Nat → Int32) (A : Nat → Nat → Int32) (J : Nat → Nat → Int64) (x1 : Int32) (x2 : Int32) : Option (Unit × (Nat → Int32) × (Nat → Nat → Int32) × (Nat → Nat → Int64)) :=
  (m_st A 42 840 (F 56) x1).bind fun A1 =>
  (m_st A1 43 840 (F 56) x2).bind fun A2 =>
  (m_pf F 56 ((F 56) + 1)).bind fun F3 =>
  some ((), F3, A2, J)
theorem t_d_emit (ht : ∀ k, t.1 12 k = k_ty 12 k) {x1 : Int32} {x2 : Int32} {r : Unit} {F' : Nat → Int32} {A' : Nat → Nat → Int32} {J' : Nat → Nat → Int64} : d_emit F A J x1 x2 = some (r, F', A', J') → k_run t lg (d) 172 0 [(0, .ref 40960), (1, .int x1), (2, .int x2)] [] (m_h c B F A J) (none, m_h c B F' A' J') := by
  intro hD
  unfold d_emit at hD
  refine k_runB (pc' := 9) (loc' := [(0, .ref 40960), (1, .int x1), (2, .int x2)]) (st' := [.int x1, .int (F 56), .ref 41002]) 5 rfl ?_
  obtain ⟨A1, hA1, hD⟩ := Option.bind_eq_some_iff.mp hD
  refine k_stI 42 rfl rfl (fun _ => rfl) hA1 ?_
  refine k_runB (pc' := 19) (loc' := [(0, .ref 40960), (1, .int x1), (2, .int x2)]) (st' := [.int x2, .int (F 56), .ref 41003]) 5 rfl ?_
  obtain ⟨A2, hA2, hD⟩ := Option.bind_eq_some_iff.mp hD
  refine k_stI 43 rfl rfl (fun _ => rfl) hA2 ?_
  refine k_runB (pc' := 27) (loc' := [(0, .ref 40960), (1, .int x1), (2, .int x2)]) (st' := [.int ((F 56) + 1), .ref 40960]) 5 rfl ?_
  obtain ⟨F3, hF3, hD⟩ := Option.bind_eq_some_iff.mp hD
  refine k_ptI rfl (ht 56) rfl rfl hF3 ?_
  cases hD
  exact k_vret rfl rfl
def d_comesOut_84 (K0 : (Nat → Int32) → (Nat → Nat → Int32) → (Nat → Nat → Int64) → Int32 → Option (Unit × (Nat → Int32) × (Nat → Nat → Int32) × (Nat → Nat → Int64))) (n : Nat) (F : Nat → Int32) (A : Nat → Nat → Int32) (J : Nat → Nat → Int64) (x1 : Int32) (s1 : Int32) : Option (Unit × (Nat → Int32) × (Nat → Nat → Int32) × (Nat → Nat → Int64)) :=
    (d_emit F A J s1 0).bind fun (_, F12, A13, J14) =>
    K0 F12 A13 J14 x1
theorem t_d_comesOut_84 (ht : ∀ k, t.1 12 k = k_ty 12 k) {n : Nat} {K0 : (Nat → Int32) → (Nat → Nat → Int32) → (Nat → Nat → Int64) → Int32 → Option (Unit × (Nat → Int32) × (Nat → Nat → Int32) × (Nat → Nat → Int64))} (hK0 : ∀ (F : Nat → Int32) (A : Nat → Nat → Int32) (J : Nat → Nat → Int64) (x1 : Int32) (w : Unit × (Nat → Int32) × (Nat → Nat → Int32) × (Nat → Nat → Int64)), K0 F A J x1 = some w → k_run t lg (d + 1) 173 0 [(0, .ref 40960), (1, .int x1)] [] (m_h c B F A J) (none, m_h c B w.2.1 w.2.2.1 w.2.2.2)) {F : Nat → Int32} {A : Nat → Nat → Int32} {J : Nat → Nat → Int64} {x1 : Int32} {s1 : Int32} {w : Unit × (Nat → Int32) × (Nat → Nat → Int32) × (Nat → Nat → Int64)} : d_comesOut_84 K0 n F A J x1 s1 = some w → k_run t lg (d + 1) 173 84 [(0, .ref 40960), (1, .int x1)] [.int s1, .ref 40960] (m_h c B F A J) (none, m_h c B w.2.1 w.2.2.1 w.2.2.2) := by
  intro hD
  unfold d_comesOut_84 at hD
  refine k_runB (pc' := 85) (loc' := [(0, .ref 40960), (1, .int x1)]) (st' := [.int 0, .int s1, .ref 40960]) 1 rfl ?_
  obtain ⟨⟨v11, F12, A13, J14⟩, hv11, hD⟩ := Option.bind_eq_some_iff.mp hD
  dsimp only at hD
  refine k_runC rfl rfl rfl rfl (t_d_emit (d := d) ht hv11) ?_
  refine k_runB (pc' := 0) (loc' := [(0, .ref 40960), (1, .int x1)]) (st' := []) 1 rfl ?_
  refine k_wk [0, 1] (loc' := [(0, .ref 40960), (1, .int x1)]) rfl rfl ?_
  exact hK0 _ _ _ _ _ hD
def d_comesOut_42 (K0 : (Nat → Int32) → (Nat → Nat → Int32) → (Nat → Nat → Int64) → Int32 → Option (Unit × (Nat → Int32) × (Nat → Nat → Int32) × (Nat → Nat → Int64))) (n : Nat) (F : Nat → Int32) (A : Nat → Nat → Int32) (J : Nat → Nat → Int64) (x1 : Int32) (x2 : Int32) : Option (Unit × (Nat → Int32) × (Nat → Nat → Int32) × (Nat → Nat → Int64)) :=
    (m_pf F 60 ((F 60) - 1)).bind fun F7 =>
    cond (g_cnd .ne x2 8)
    (cond (g_cnd .ne x2 9)
    (cond (g_cnd .ne x2 10)
    (d_comesOut_84 K0 n F7 A J x1 5)
    (d_comesOut_84 K0 n F7 A J x1 4))
    (d_comesOut_84 K0 n F7 A J x1 3))
    (d_comesOut_84 K0 n F7 A J x1 2)
theorem t_d_comesOut_42 (ht : ∀ k, t.1 12 k = k_ty 12 k) {n : Nat} {K0 : (Nat → Int32) → (Nat → Nat → Int32) → (Nat → Nat → Int64) → Int32 → Option (Unit × (Nat → Int32) × (Nat → Nat → Int32) × (Nat → Nat → Int64))} (hK0 : ∀ (F : Nat → Int32) (A : Nat → Nat → Int32) (J : Nat → Nat → Int64) (x1 : Int32) (w : Unit × (Nat → Int32) × (Nat → Nat → Int32) × (Nat → Nat → Int64)), K0 F A J x1 = some w → k_run t lg (d + 1) 173 0 [(0, .ref 40960), (1, .int x1)] [] (m_h c B F A J) (none, m_h c B w.2.1 w.2.2.1 w.2.2.2)) {F : Nat → Int32} {A : Nat → Nat → Int32} {J : Nat → Nat → Int64} {x1 : Int32} {x2 : Int32} {w : Unit × (Nat → Int32) × (Nat → Nat → Int32) × (Nat → Nat → Int64)} : d_comesOut_42 K0 n F A J x1 x2 = some w → k_run t lg (d + 1) 173 42 [(0, .ref 40960), (1, .int x1), (2, .int x2)] [] (m_h c B F A J) (none, m_h c B w.2.1 w.2.2.1 w.2.2.2) := by
  intro hD
  unfold d_comesOut_42 at hD
  refine k_runB (pc' := 49) (loc' := [(0, .ref 40960), (1, .int x1), (2, .int x2)]) (st' := [.int ((F 60) - 1), .ref 40960]) 5 rfl ?_
  obtain ⟨F7, hF7, hD⟩ := Option.bind_eq_some_iff.mp hD
  refine k_ptI rfl (ht 60) rfl rfl hF7 ?_
  refine k_runB (pc' := 56) (loc' := [(0, .ref 40960), (1, .int x1), (2, .int x2)]) (st' := [.int 8, .int x2, .ref 40960]) 3 rfl ?_
  refine k_ic rfl (fun c56_7 => ?_) (fun c56_7 => ?_)
  · rw [c56_7, cond_true] at hD
    refine k_runB (pc' := 66) (loc' := [(0, .ref 40960), (1, .int x1), (2, .int x2)]) (st' := [.int 9, .int x2, .ref 40960]) 2 rfl ?_
    refine k_ic rfl (fun c66_8 => ?_) (fun c66_8 => ?_)
    · rw [c66_8, cond_true] at hD
      refine k_runB (pc' := 76) (loc' := [(0, .ref 40960), (1, .int x1), (2, .int x2)]) (st' := [.int 10, .int x2, .ref 40960]) 2 rfl ?_
      refine k_ic rfl (fun c76_9 => ?_) (fun c76_9 => ?_)
      · rw [c76_9, cond_true] at hD
        refine k_runB (pc' := 84) (loc' := [(0, .ref 40960), (1, .int x1), (2, .int x2)]) (st' := [.int 5, .ref 40960]) 1 rfl ?_
        refine k_wk [0, 1] (loc' := [(0, .ref 40960), (1, .int x1)]) rfl rfl ?_
        exact t_d_comesOut_84 ht hK0 hD
      · rw [c76_9, cond_false] at hD
        refine k_runB (pc' := 84) (loc' := [(0, .ref 40960), (1, .int x1), (2, .int x2)]) (st' := [.int 4, .ref 40960]) 2 rfl ?_
        refine k_wk [0, 1] (loc' := [(0, .ref 40960), (1, .int x1)]) rfl rfl ?_
        exact t_d_comesOut_84 ht hK0 hD
    · rw [c66_8, cond_false] at hD
      refine k_runB (pc' := 84) (loc' := [(0, .ref 40960), (1, .int x1), (2, .int x2)]) (st' := [.int 3, .ref 40960]) 2 rfl ?_
      refine k_wk [0, 1] (loc' := [(0, .ref 40960), (1, .int x1)]) rfl rfl ?_
      exact t_d_comesOut_84 ht hK0 hD
  · rw [c56_7, cond_false] at hD
    refine k_runB (pc' := 84) (loc' := [(0, .ref 40960), (1, .int x1), (2, .int x2)]) (st' := [.int 2, .ref 40960]) 2 rfl ?_
    refine k_wk [0, 1] (loc' := [(0, .ref 40960), (1, .int x1)]) rfl rfl ?_
    exact t_d_comesOut_84 ht hK0 hD
def d_comesOut_0 : Nat → (Nat → Int32) → (Nat → Nat → Int32) → (Nat → Nat → Int64) → Int32 → Option (Unit × (Nat → Int32) × (Nat → Nat → Int32) × (Nat → Nat → Int64))
  | 0, _, _, _, _ => none
  | n + 1, F, A, J, x1 => cond (g_cnd .le (F 60) 0)
    (some ((), F, A, J))
    ((m_ld (A 44) 64 ((F 60) - 1)).bind fun v2 =>
    cond (g_cnd .eq v2 6)
    (some ((), F, A, J))
    (cond (g_cnd .eq x1 0)
    (d_comesOut_42 (d_comesOut_0 n) n F A J x1 v2)
    (cond (g_cnd .eq v2 8)
    (some ((), F, A, J))
    (cond (g_cnd .ne v2 9)
    (d_comesOut_42 (d_comesOut_0 n) n F A J x1 v2)
    (some ((), F, A, J))))))
theorem t_d_comesOut_0 (ht : ∀ k, t.1 12 k = k_ty 12 k) {n : Nat}  {F : Nat → Int32} {A : Nat → Nat → Int32} {J : Nat → Nat → Int64} {x1 : Int32} {w : Unit × (Nat → Int32) × (Nat → Nat → Int32) × (Nat → Nat → Int64)} : d_comesOut_0 n F A J x1 = some w → k_run t lg (d + 1) 173 0 [(0, .ref 40960), (1, .int x1)] [] (m_h c B F A J) (none, m_h c B w.2.1 w.2.2.1 w.2.2.2) := by
  induction n generalizing F A J x1 w with
  | zero => intro hD; cases hD
  | succ n ih =>
    intro hD
    have hK0 : ∀ (F : Nat → Int32) (A : Nat → Nat → Int32) (J : Nat → Nat → Int64) (x1 : Int32) (w : Unit × (Nat → Int32) × (Nat → Nat → Int32) × (Nat → Nat → Int64)), d_comesOut_0 n F A J x1 = some w → k_run t lg (d + 1) 173 0 [(0, .ref 40960), (1, .int x1)] [] (m_h c B F A J) (none, m_h c B w.2.1 w.2.2.1 w.2.2.2) := fun _ _ _ _ _ h => ih h
    unfold d_comesOut_0 at hD
    refine k_runB (pc' := 4) (loc' := [(0, .ref 40960), (1, .int x1)]) (st' := [.int (F 60)]) 2 rfl ?_
    refine k_if rfl (fun c4_0 => ?_) (fun c4_0 => ?_)
    · rw [c4_0, cond_true] at hD
      cases hD
      exact k_vret rfl rfl
    · rw [c4_0, cond_false] at hD
      refine k_runB (pc' := 17) (loc' := [(0, .ref 40960), (1, .int x1)]) (st' := [.int ((F 60) - 1), .ref 41004]) 6 rfl ?_
      obtain ⟨v2, hv2, hD⟩ := Option.bind_eq_some_iff.mp hD
      refine k_ldI rfl rfl hv2 ?_
      refine k_runB (pc' := 22) (loc' := [(0, .ref 40960), (1, .int x1), (2, .int v2)]) (st' := [.int 6, .int v2]) 3 rfl ?_
      refine k_ic rfl (fun c22_2 => ?_) (fun c22_2 => ?_)
      · rw [c22_2, cond_true] at hD
        cases hD
        exact k_vret rfl rfl
      · rw [c22_2, cond_false] at hD
        refine k_runB (pc' := 26) (loc' := [(0, .ref 40960), (1, .int x1), (2, .int v2)]) (st' := [.int x1]) 1 rfl ?_
        refine k_if rfl (fun c26_3 => ?_) (fun c26_3 => ?_)
        · rw [c26_3, cond_true] at hD
          refine k_wk [0, 1, 2] (loc' := [(0, .ref 40960), (1, .int x1), (2, .int v2)]) rfl rfl ?_
          exact t_d_comesOut_42 ht hK0 hD
        · rw [c26_3, cond_false] at hD
          refine k_runB (pc' := 32) (loc' := [(0, .ref 40960), (1, .int x1), (2, .int v2)]) (st' := [.int 8, .int v2]) 2 rfl ?_
          refine k_ic rfl (fun c32_4 => ?_) (fun c32_4 => ?_)
          · rw [c32_4, cond_true] at hD
            cases hD
            exact k_vret rfl rfl
          · rw [c32_4, cond_false] at hD
            refine k_runB (pc' := 38) (loc' := [(0, .ref 40960), (1, .int x1), (2, .int v2)]) (st' := [.int 9, .int v2]) 2 rfl ?_
            refine k_ic rfl (fun c38_5 => ?_) (fun c38_5 => ?_)
            · rw [c38_5, cond_true] at hD
              refine k_wk [0, 1, 2] (loc' := [(0, .ref 40960), (1, .int x1), (2, .int v2)]) rfl rfl ?_
              exact t_d_comesOut_42 ht hK0 hD
            · rw [c38_5, cond_false] at hD
              cases hD
              exact k_vret rfl rfl
/-- SleepWorkModel.comesOut(Z)V -/
def d_comesOut (n : Nat) (F : Nat → Int32) (A : Nat → Nat → Int32) (J : Nat → Nat → Int64) (x1 : Int32) : Option (Unit × (Nat → Int32) × (Nat → Nat → Int32) × (Nat → Nat → Int64)) :=
  d_comesOut_0 n F A J x1
theorem t_d_comesOut (ht : ∀ k, t.1 12 k = k_ty 12 k) {n : Nat} {x1 : Int32} {r : Unit} {F' : Nat → Int32} {A' : Nat → Nat → Int32} {J' : Nat → Nat → Int64} : d_comesOut n F A J x1 = some (r, F', A', J') → k_run t lg (d + 1) 173 0 [(0, .ref 40960), (1, .int x1)] [] (m_h c B F A J) (none, m_h c B F' A' J') := by
  intro hD
  unfold d_comesOut at hD
  refine k_wk [0, 1] (loc' := [(0, .ref 40960), (1, .int x1)]) rfl rfl ?_
  exact t_d_comesOut_0 ht  hD
def d_unit_88 (F : Nat → Int32) (A : Nat → Nat → Int32) (J : Nat → Nat → Int64) : Option (Unit × (Nat → Int32) × (Nat → Nat → Int32) × (Nat → Nat → Int64)) :=
    (d_fail F A J 1).bind fun (_, F27, A28, J29) =>
    some ((), F27, A28, J29)
theorem t_d_unit_88 (ht : ∀ k, t.1 12 k = k_ty 12 k)  {F : Nat → Int32} {A : Nat → Nat → Int32} {J : Nat → Nat → Int64}  {w : Unit × (Nat → Int32) × (Nat → Nat → Int32) × (Nat → Nat → Int64)} : d_unit_88 F A J = some w → k_run t lg (d + 2) 175 88 [(0, .ref 40960)] [] (m_h c B F A J) (none, m_h c B w.2.1 w.2.2.1 w.2.2.2) := by
  intro hD
  unfold d_unit_88 at hD
  refine k_runB (pc' := 90) (loc' := [(0, .ref 40960)]) (st' := [.int 1, .ref 40960]) 2 rfl ?_
  obtain ⟨⟨v26, F27, A28, J29⟩, hv26, hD⟩ := Option.bind_eq_some_iff.mp hD
  dsimp only at hD
  refine k_runC rfl rfl rfl rfl (t_d_fail (d := d + 1) ht hv26) ?_
  cases hD
  exact k_vret rfl rfl
/-- SleepWorkModel.unit()V -/
def d_unit (F : Nat → Int32) (A : Nat → Nat → Int32) (J : Nat → Nat → Int64) : Option (Unit × (Nat → Int32) × (Nat → Nat → Int32) × (Nat → Nat → Int64)) :=
  (d_is F A J 2).bind fun v1 =>
  cond (g_cnd .eq v1 0)
  (cond (g_cnd .ne (F 13) 0)
  (d_unit_88 F A J)
  ((m_ld (A 3) 403 (F 11)).bind fun v4 =>
  cond (g_cnd .lt v4 35)
  (d_unit_88 F A J)
  ((m_ld (A 3) 403 (F 11)).bind fun v6 =>
  cond (g_cnd .gt v6 40)
  (d_unit_88 F A J)
  ((m_ld (A 3) 403 (F 11)).bind fun v8 =>
  (d_emit F A J 1 (v8 - 35)).bind fun (_, F10, A11, J12) =>
  (d_goesOn F10 A11 J12).bind fun (_, F14, A15, J16) =>
  some ((), F14, A15, J16)))))
  ((m_ld (A 5) 403 (F 11)).bind fun v17 =>
  (d_emit F A J 0 v17).bind fun (_, F19, A20, J21) =>
  (d_goesOn F19 A20 J21).bind fun (_, F23, A24, J25) =>
  some ((), F23, A24, J25))
theorem t_d_unit (ht : ∀ k, t.1 12 k = k_ty 12 k) {r : Unit} {F' : Nat → Int32} {A' : Nat → Nat → Int32} {J' : Nat → Nat → Int64} : d_unit F A J = some (r, F', A', J') → k_run t lg (d + 2) 175 0 [(0, .ref 40960)] [] (m_h c B F A J) (none, m_h c B F' A' J') := by
  intro hD
  unfold d_unit at hD
  refine k_runB (pc' := 2) (loc' := [(0, .ref 40960)]) (st' := [.int 2, .ref 40960]) 2 rfl ?_
  obtain ⟨v1, hv1, hD⟩ := Option.bind_eq_some_iff.mp hD
  refine k_runC rfl rfl rfl rfl (t_d_is (d := d + 1) hv1) ?_
  refine k_if rfl (fun c5_1 => ?_) (fun c5_1 => ?_)
  · rw [c5_1, cond_true] at hD
    refine k_runB (pc' := 33) (loc' := [(0, .ref 40960)]) (st' := [.int (F 13)]) 2 rfl ?_
    refine k_if rfl (fun c33_2 => ?_) (fun c33_2 => ?_)
    · rw [c33_2, cond_true] at hD
      refine k_wk [0] (loc' := [(0, .ref 40960)]) rfl rfl ?_
      exact t_d_unit_88 ht  hD
    · rw [c33_2, cond_false] at hD
      refine k_runB (pc' := 44) (loc' := [(0, .ref 40960)]) (st' := [.int (F 11), .ref 40963]) 4 rfl ?_
      obtain ⟨v4, hv4, hD⟩ := Option.bind_eq_some_iff.mp hD
      refine k_ldI rfl rfl hv4 ?_
      refine k_runB (pc' := 47) (loc' := [(0, .ref 40960)]) (st' := [.int 35, .int v4]) 1 rfl ?_
      refine k_ic rfl (fun c47_4 => ?_) (fun c47_4 => ?_)
      · rw [c47_4, cond_true] at hD
        refine k_wk [0] (loc' := [(0, .ref 40960)]) rfl rfl ?_
        exact t_d_unit_88 ht  hD
      · rw [c47_4, cond_false] at hD
        refine k_runB (pc' := 58) (loc' := [(0, .ref 40960)]) (st' := [.int (F 11), .ref 40963]) 4 rfl ?_
        obtain ⟨v6, hv6, hD⟩ := Option.bind_eq_some_iff.mp hD
        refine k_ldI rfl rfl hv6 ?_
        refine k_runB (pc' := 61) (loc' := [(0, .ref 40960)]) (st' := [.int 40, .int v6]) 1 rfl ?_
        refine k_ic rfl (fun c61_6 => ?_) (fun c61_6 => ?_)
        · rw [c61_6, cond_true] at hD
          refine k_wk [0] (loc' := [(0, .ref 40960)]) rfl rfl ?_
          exact t_d_unit_88 ht  hD
        · rw [c61_6, cond_false] at hD
          refine k_runB (pc' := 74) (loc' := [(0, .ref 40960)]) (st' := [.int (F 11), .ref 40963, .int 1, .ref 40960]) 6 rfl ?_
          obtain ⟨v8, hv8, hD⟩ := Option.bind_eq_some_iff.mp hD
          refine k_ldI rfl rfl hv8 ?_
          refine k_runB (pc' := 78) (loc' := [(0, .ref 40960)]) (st' := [.int (v8 - 35), .int 1, .ref 40960]) 2 rfl ?_
          obtain ⟨⟨v9, F10, A11, J12⟩, hv9, hD⟩ := Option.bind_eq_some_iff.mp hD
          dsimp only at hD
          refine k_runC rfl rfl rfl rfl (t_d_emit (d := d + 1) ht hv9) ?_
          refine k_runB (pc' := 82) (loc' := [(0, .ref 40960)]) (st' := [.ref 40960]) 1 rfl ?_
          obtain ⟨⟨v13, F14, A15, J16⟩, hv13, hD⟩ := Option.bind_eq_some_iff.mp hD
          dsimp only at hD
          refine k_runC rfl rfl rfl rfl (t_d_goesOn (d := d) ht hv13) ?_
          refine k_runB (pc' := 93) (loc' := [(0, .ref 40960)]) (st' := []) 1 rfl ?_
          cases hD
          exact k_vret rfl rfl
  · rw [c5_1, cond_false] at hD
    refine k_runB (pc' := 18) (loc' := [(0, .ref 40960)]) (st' := [.int (F 11), .ref 40965, .int 0, .ref 40960]) 6 rfl ?_
    obtain ⟨v17, hv17, hD⟩ := Option.bind_eq_some_iff.mp hD
    refine k_ldI rfl rfl hv17 ?_
    obtain ⟨⟨v18, F19, A20, J21⟩, hv18, hD⟩ := Option.bind_eq_some_iff.mp hD
    dsimp only at hD
    refine k_runC rfl rfl rfl rfl (t_d_emit (d := d + 1) ht hv18) ?_
    refine k_runB (pc' := 23) (loc' := [(0, .ref 40960)]) (st' := [.ref 40960]) 1 rfl ?_
    obtain ⟨⟨v22, F23, A24, J25⟩, hv22, hD⟩ := Option.bind_eq_some_iff.mp hD
    dsimp only at hD
    refine k_runC rfl rfl rfl rfl (t_d_goesOn (d := d) ht hv22) ?_
    refine k_runB (pc' := 93) (loc' := [(0, .ref 40960)]) (st' := []) 1 rfl ?_
    cases hD
    exact k_vret rfl rfl
def d_termOf_159 (K5 : (Nat → Int32) → (Nat → Nat → Int32) → (Nat → Nat → Int64) → Int32 → Int32 → Int32 → Option (Int32 × (Nat → Int32) × (Nat → Nat → Int32) × (Nat → Nat → Int64))) (n : Nat) (F : Nat → Int32) (A : Nat → Nat → Int32) (J : Nat → Nat → Int64) (x2 : Int32) (x3 : Int32) (x4 : Int32) : Option (Int32 × (Nat → Int32) × (Nat → Nat → Int32) × (Nat → Nat → Int64)) :=
    K5 F A J x2 x3 (x4 + 1)
theorem t_d_termOf_159 (ht : ∀ k, t.1 12 k = k_ty 12 k) {n : Nat} {K5 : (Nat → Int32) → (Nat → Nat → Int32) → (Nat → Nat → Int64) → Int32 → Int32 → Int32 → Option (Int32 × (Nat → Int32) × (Nat → Nat → Int32) × (Nat → Nat → Int64))} (hK5 : ∀ (F : Nat → Int32) (A : Nat → Nat → Int32) (J : Nat → Nat → Int64) (x2 : Int32) (x3 : Int32) (x4 : Int32) (w : Int32 × (Nat → Int32) × (Nat → Nat → Int32) × (Nat → Nat → Int64)), K5 F A J x2 x3 x4 = some w → k_run t lg (d) 176 5 [(0, .ref 40960), (2, .int x2), (3, .int x3), (4, .int x4)] [] (m_h c B F A J) (some (.int w.1), m_h c B w.2.1 w.2.2.1 w.2.2.2)) {F : Nat → Int32} {A : Nat → Nat → Int32} {J : Nat → Nat → Int64} {x2 : Int32} {x3 : Int32} {x4 : Int32} {w : Int32 × (Nat → Int32) × (Nat → Nat → Int32) × (Nat → Nat → Int64)} : d_termOf_159 K5 n F A J x2 x3 x4 = some w → k_run t lg (d) 176 159 [(0, .ref 40960), (2, .int x2), (3, .int x3), (4, .int x4)] [] (m_h c B F A J) (some (.int w.1), m_h c B w.2.1 w.2.2.1 w.2.2.2) := by
  intro hD
  unfold d_termOf_159 at hD
  refine k_runB (pc' := 5) (loc' := [(0, .ref 40960), (2, .int x2), (3, .int x3), (4, .int (x4 + 1))]) (st' := []) 2 rfl ?_
  refine k_wk [0, 2, 3, 4] (loc' := [(0, .ref 40960), (2, .int x2), (3, .int x3), (4, .int (x4 + 1))]) rfl rfl ?_
  exact hK5 _ _ _ _ _ _ _ hD
def d_termOf_158 (K5 : (Nat → Int32) → (Nat → Nat → Int32) → (Nat → Nat → Int64) → Int32 → Int32 → Int32 → Option (Int32 × (Nat → Int32) × (Nat → Nat → Int32) × (Nat → Nat → Int64))) (n : Nat) (F : Nat → Int32) (A : Nat → Nat → Int32) (J : Nat → Nat → Int64) (x2 : Int32) (x3 : Int32) (x4 : Int32) (s1 : Int32) (s2 : Int32) : Option (Int32 × (Nat → Int32) × (Nat → Nat → Int32) × (Nat → Nat → Int64)) :=
    (m_st A 46 400 s1 s2).bind fun A21 =>
    K5 F A21 J x2 x3 (x4 + 1)
theorem t_d_termOf_158 (ht : ∀ k, t.1 12 k = k_ty 12 k) {n : Nat} {K5 : (Nat → Int32) → (Nat → Nat → Int32) → (Nat → Nat → Int64) → Int32 → Int32 → Int32 → Option (Int32 × (Nat → Int32) × (Nat → Nat → Int32) × (Nat → Nat → Int64))} (hK5 : ∀ (F : Nat → Int32) (A : Nat → Nat → Int32) (J : Nat → Nat → Int64) (x2 : Int32) (x3 : Int32) (x4 : Int32) (w : Int32 × (Nat → Int32) × (Nat → Nat → Int32) × (Nat → Nat → Int64)), K5 F A J x2 x3 x4 = some w → k_run t lg (d) 176 5 [(0, .ref 40960), (2, .int x2), (3, .int x3), (4, .int x4)] [] (m_h c B F A J) (some (.int w.1), m_h c B w.2.1 w.2.2.1 w.2.2.2)) {F : Nat → Int32} {A : Nat → Nat → Int32} {J : Nat → Nat → Int64} {x2 : Int32} {x3 : Int32} {x4 : Int32} {s1 : Int32} {s2 : Int32} {w : Int32 × (Nat → Int32) × (Nat → Nat → Int32) × (Nat → Nat → Int64)} : d_termOf_158 K5 n F A J x2 x3 x4 s1 s2 = some w → k_run t lg (d) 176 158 [(0, .ref 40960), (2, .int x2), (3, .int x3), (4, .int x4)] [.int s2, .int s1, .ref 41006] (m_h c B F A J) (some (.int w.1), m_h c B w.2.1 w.2.2.1 w.2.2.2) := by
  intro hD
  unfold d_termOf_158 at hD
  obtain ⟨A21, hA21, hD⟩ := Option.bind_eq_some_iff.mp hD
  refine k_stI 46 rfl rfl (fun _ => rfl) hA21 ?_
  refine k_runB (pc' := 5) (loc' := [(0, .ref 40960), (2, .int x2), (3, .int x3), (4, .int (x4 + 1))]) (st' := []) 2 rfl ?_
  refine k_wk [0, 2, 3, 4] (loc' := [(0, .ref 40960), (2, .int x2), (3, .int x3), (4, .int (x4 + 1))]) rfl rfl ?_
  exact hK5 _ _ _ _ _ _ _ hD
def d_termOf_104 (K5 : (Nat → Int32) → (Nat → Nat → Int32) → (Nat → Nat → Int64) → Int32 → Int32 → Int32 → Option (Int32 × (Nat → Int32) × (Nat → Nat → Int32) × (Nat → Nat → Int64))) (n : Nat) (F : Nat → Int32) (A : Nat → Nat → Int32) (J : Nat → Nat → Int64) (x2 : Int32) (x3 : Int32) (x4 : Int32) (x5 : Int32) (x6 : Int32) (x7 : Int32) : Option (Int32 × (Nat → Int32) × (Nat → Nat → Int32) × (Nat → Nat → Int64)) :=
    cond (g_cnd .ne x5 2)
    (cond (g_cnd .ne x5 3)
    (cond (g_cnd .ne x5 4)
    ((m_div x6 x7).bind fun v18 =>
    (m_st A 46 400 (x3 - 1) v18).bind fun A19 =>
    K5 F A19 J x2 x3 (x4 + 1))
    (d_termOf_158 K5 n F A J x2 x3 x4 (x3 - 1) (x6 * x7)))
    (d_termOf_158 K5 n F A J x2 x3 x4 (x3 - 1) (x6 - x7)))
    (d_termOf_158 K5 n F A J x2 x3 x4 (x3 - 1) (x6 + x7))
theorem t_d_termOf_104 (ht : ∀ k, t.1 12 k = k_ty 12 k) {n : Nat} {K5 : (Nat → Int32) → (Nat → Nat → Int32) → (Nat → Nat → Int64) → Int32 → Int32 → Int32 → Option (Int32 × (Nat → Int32) × (Nat → Nat → Int32) × (Nat → Nat → Int64))} (hK5 : ∀ (F : Nat → Int32) (A : Nat → Nat → Int32) (J : Nat → Nat → Int64) (x2 : Int32) (x3 : Int32) (x4 : Int32) (w : Int32 × (Nat → Int32) × (Nat → Nat → Int32) × (Nat → Nat → Int64)), K5 F A J x2 x3 x4 = some w → k_run t lg (d) 176 5 [(0, .ref 40960), (2, .int x2), (3, .int x3), (4, .int x4)] [] (m_h c B F A J) (some (.int w.1), m_h c B w.2.1 w.2.2.1 w.2.2.2)) {F : Nat → Int32} {A : Nat → Nat → Int32} {J : Nat → Nat → Int64} {x2 : Int32} {x3 : Int32} {x4 : Int32} {x5 : Int32} {x6 : Int32} {x7 : Int32} {w : Int32 × (Nat → Int32) × (Nat → Nat → Int32) × (Nat → Nat → Int64)} : d_termOf_104 K5 n F A J x2 x3 x4 x5 x6 x7 = some w → k_run t lg (d) 176 104 [(0, .ref 40960), (2, .int x2), (3, .int x3), (4, .int x4), (5, .int x5), (6, .int x6), (7, .int x7)] [] (m_h c B F A J) (some (.int w.1), m_h c B w.2.1 w.2.2.1 w.2.2.2) := by
  intro hD
  unfold d_termOf_104 at hD
  refine k_runB (pc' := 114) (loc' := [(0, .ref 40960), (2, .int x2), (3, .int x3), (4, .int x4), (5, .int x5), (6, .int x6), (7, .int x7)]) (st' := [.int 2, .int x5, .int (x3 - 1), .ref 41006]) 7 rfl ?_
  refine k_ic rfl (fun c114_14 => ?_) (fun c114_14 => ?_)
  · rw [c114_14, cond_true] at hD
    refine k_runB (pc' := 128) (loc' := [(0, .ref 40960), (2, .int x2), (3, .int x3), (4, .int x4), (5, .int x5), (6, .int x6), (7, .int x7)]) (st' := [.int 3, .int x5, .int (x3 - 1), .ref 41006]) 2 rfl ?_
    refine k_ic rfl (fun c128_15 => ?_) (fun c128_15 => ?_)
    · rw [c128_15, cond_true] at hD
      refine k_runB (pc' := 142) (loc' := [(0, .ref 40960), (2, .int x2), (3, .int x3), (4, .int x4), (5, .int x5), (6, .int x6), (7, .int x7)]) (st' := [.int 4, .int x5, .int (x3 - 1), .ref 41006]) 2 rfl ?_
      refine k_ic rfl (fun c142_16 => ?_) (fun c142_16 => ?_)
      · rw [c142_16, cond_true] at hD
        refine k_runB (pc' := 157) (loc' := [(0, .ref 40960), (2, .int x2), (3, .int x3), (4, .int x4), (5, .int x5), (6, .int x6), (7, .int x7)]) (st' := [.int x7, .int x6, .int (x3 - 1), .ref 41006]) 2 rfl ?_
        obtain ⟨v18, hv18, hD⟩ := Option.bind_eq_some_iff.mp hD
        refine k_dvI rfl hv18 ?_
        obtain ⟨A19, hA19, hD⟩ := Option.bind_eq_some_iff.mp hD
        refine k_stI 46 rfl rfl (fun _ => rfl) hA19 ?_
        refine k_runB (pc' := 5) (loc' := [(0, .ref 40960), (2, .int x2), (3, .int x3), (4, .int (x4 + 1)), (5, .int x5), (6, .int x6), (7, .int x7)]) (st' := []) 2 rfl ?_
        refine k_wk [0, 2, 3, 4] (loc' := [(0, .ref 40960), (2, .int x2), (3, .int x3), (4, .int (x4 + 1))]) rfl rfl ?_
        exact hK5 _ _ _ _ _ _ _ hD
      · rw [c142_16, cond_false] at hD
        refine k_runB (pc' := 158) (loc' := [(0, .ref 40960), (2, .int x2), (3, .int x3), (4, .int x4), (5, .int x5), (6, .int x6), (7, .int x7)]) (st' := [.int (x6 * x7), .int (x3 - 1), .ref 41006]) 4 rfl ?_
        refine k_wk [0, 2, 3, 4] (loc' := [(0, .ref 40960), (2, .int x2), (3, .int x3), (4, .int x4)]) rfl rfl ?_
        exact t_d_termOf_158 ht hK5 hD
    · rw [c128_15, cond_false] at hD
      refine k_runB (pc' := 158) (loc' := [(0, .ref 40960), (2, .int x2), (3, .int x3), (4, .int x4), (5, .int x5), (6, .int x6), (7, .int x7)]) (st' := [.int (x6 - x7), .int (x3 - 1), .ref 41006]) 4 rfl ?_
      refine k_wk [0, 2, 3, 4] (loc' := [(0, .ref 40960), (2, .int x2), (3, .int x3), (4, .int x4)]) rfl rfl ?_
      exact t_d_termOf_158 ht hK5 hD
  · rw [c114_14, cond_false] at hD
    refine k_runB (pc' := 158) (loc' := [(0, .ref 40960), (2, .int x2), (3, .int x3), (4, .int x4), (5, .int x5), (6, .int x6), (7, .int x7)]) (st' := [.int (x6 + x7), .int (x3 - 1), .ref 41006]) 4 rfl ?_
    refine k_wk [0, 2, 3, 4] (loc' := [(0, .ref 40960), (2, .int x2), (3, .int x3), (4, .int x4)]) rfl rfl ?_
    exact t_d_termOf_158 ht hK5 hD
def d_termOf_58 (K5 : (Nat → Int32) → (Nat → Nat → Int32) → (Nat → Nat → Int64) → Int32 → Int32 → Int32 → Option (Int32 × (Nat → Int32) × (Nat → Nat → Int32) × (Nat → Nat → Int64))) (n : Nat) (F : Nat → Int32) (A : Nat → Nat → Int32) (J : Nat → Nat → Int64) (x2 : Int32) (x3 : Int32) (x4 : Int32) (s1 : Int32) (s2 : Int32) : Option (Int32 × (Nat → Int32) × (Nat → Nat → Int32) × (Nat → Nat → Int64)) :=
    (m_st A 46 400 s1 s2).bind fun A20 =>
    d_termOf_159 K5 n F A20 J x2 (x3 + 1) x4
theorem t_d_termOf_58 (ht : ∀ k, t.1 12 k = k_ty 12 k) {n : Nat} {K5 : (Nat → Int32) → (Nat → Nat → Int32) → (Nat → Nat → Int64) → Int32 → Int32 → Int32 → Option (Int32 × (Nat → Int32) × (Nat → Nat → Int32) × (Nat → Nat → Int64))} (hK5 : ∀ (F : Nat → Int32) (A : Nat → Nat → Int32) (J : Nat → Nat → Int64) (x2 : Int32) (x3 : Int32) (x4 : Int32) (w : Int32 × (Nat → Int32) × (Nat → Nat → Int32) × (Nat → Nat → Int64)), K5 F A J x2 x3 x4 = some w → k_run t lg (d) 176 5 [(0, .ref 40960), (2, .int x2), (3, .int x3), (4, .int x4)] [] (m_h c B F A J) (some (.int w.1), m_h c B w.2.1 w.2.2.1 w.2.2.2)) {F : Nat → Int32} {A : Nat → Nat → Int32} {J : Nat → Nat → Int64} {x2 : Int32} {x3 : Int32} {x4 : Int32} {s1 : Int32} {s2 : Int32} {w : Int32 × (Nat → Int32) × (Nat → Nat → Int32) × (Nat → Nat → Int64)} : d_termOf_58 K5 n F A J x2 x3 x4 s1 s2 = some w → k_run t lg (d) 176 58 [(0, .ref 40960), (2, .int x2), (3, .int x3), (4, .int x4)] [.int s2, .int s1, .ref 41006] (m_h c B F A J) (some (.int w.1), m_h c B w.2.1 w.2.2.1 w.2.2.2) := by
  intro hD
  unfold d_termOf_58 at hD
  obtain ⟨A20, hA20, hD⟩ := Option.bind_eq_some_iff.mp hD
  refine k_stI 46 rfl rfl (fun _ => rfl) hA20 ?_
  refine k_runB (pc' := 159) (loc' := [(0, .ref 40960), (2, .int x2), (3, .int (x3 + 1)), (4, .int x4)]) (st' := []) 2 rfl ?_
  refine k_wk [0, 2, 3, 4] (loc' := [(0, .ref 40960), (2, .int x2), (3, .int (x3 + 1)), (4, .int x4)]) rfl rfl ?_
  exact t_d_termOf_159 ht hK5 hD
def d_termOf_5 : Nat → (Nat → Int32) → (Nat → Nat → Int32) → (Nat → Nat → Int64) → Int32 → Int32 → Int32 → Option (Int32 × (Nat → Int32) × (Nat → Nat → Int32) × (Nat → Nat → Int64))
  | 0, _, _, _, _, _, _ => none
  | n + 1, F, A, J, x2, x3, x4 => cond (g_cnd .ge x4 x2)
    ((m_ld (A 46) 400 0).bind fun v2 =>
    some (v2, F, A, J))
    ((m_ld (A 42) 840 x4).bind fun v3 =>
    cond (g_cnd .ge v3 2)
    ((m_ld (A 46) 400 ((x3 + (-1)) - 1)).bind fun v5 =>
    (m_ld (A 46) 400 (x3 + (-1))).bind fun v6 =>
    cond (g_cnd .ne v3 5)
    (d_termOf_104 (d_termOf_5 n) n F A J x2 (x3 + (-1)) x4 v3 v5 v6)
    (cond (g_cnd .ne v6 0)
    (d_termOf_104 (d_termOf_5 n) n F A J x2 (x3 + (-1)) x4 v3 v5 v6)
    ((m_pfz F 63 1).bind fun F9 =>
    some (0, F9, A, J))))
    (cond (g_cnd .ne v3 0)
    ((m_ld (A 43) 840 x4).bind fun v11 =>
    (m_ld (A 45) 6 v11).bind fun v12 =>
    (m_st A 46 400 x3 v12).bind fun A13 =>
    d_termOf_159 (d_termOf_5 n) n F A13 J x2 (x3 + 1) x4)
    ((m_ld (A 43) 840 x4).bind fun v14 =>
    d_termOf_58 (d_termOf_5 n) n F A J x2 x3 x4 x3 v14)))
theorem t_d_termOf_5 (ht : ∀ k, t.1 12 k = k_ty 12 k) {n : Nat}  {F : Nat → Int32} {A : Nat → Nat → Int32} {J : Nat → Nat → Int64} {x2 : Int32} {x3 : Int32} {x4 : Int32} {w : Int32 × (Nat → Int32) × (Nat → Nat → Int32) × (Nat → Nat → Int64)} : d_termOf_5 n F A J x2 x3 x4 = some w → k_run t lg (d) 176 5 [(0, .ref 40960), (2, .int x2), (3, .int x3), (4, .int x4)] [] (m_h c B F A J) (some (.int w.1), m_h c B w.2.1 w.2.2.1 w.2.2.2) := by
  induction n generalizing F A J x2 x3 x4 w with
  | zero => intro hD; cases hD
  | succ n ih =>
    intro hD
    have hK5 : ∀ (F : Nat → Int32) (A : Nat → Nat → Int32) (J : Nat → Nat → Int64) (x2 : Int32) (x3 : Int32) (x4 : Int32) (w : Int32 × (Nat → Int32) × (Nat → Nat → Int32) × (Nat → Nat → Int64)), d_termOf_5 n F A J x2 x3 x4 = some w → k_run t lg (d) 176 5 [(0, .ref 40960), (2, .int x2), (3, .int x3), (4, .int x4)] [] (m_h c B F A J) (some (.int w.1), m_h c B w.2.1 w.2.2.1 w.2.2.2) := fun _ _ _ _ _ _ _ h => ih h
    unfold d_termOf_5 at hD
    refine k_runB (pc' := 8) (loc' := [(0, .ref 40960), (2, .int x2), (3, .int x3), (4, .int x4)]) (st' := [.int x2, .int x4]) 2 rfl ?_
    refine k_ic rfl (fun c8_0 => ?_) (fun c8_0 => ?_)
    · rw [c8_0, cond_true] at hD
      refine k_runB (pc' := 170) (loc' := [(0, .ref 40960), (2, .int x2), (3, .int x3), (4, .int x4)]) (st' := [.int 0, .ref 41006]) 3 rfl ?_
      obtain ⟨v2, hv2, hD⟩ := Option.bind_eq_some_iff.mp hD
      refine k_ldI rfl rfl hv2 ?_
      cases hD
      exact k_iret rfl rfl
    · rw [c8_0, cond_false] at hD
      refine k_runB (pc' := 17) (loc' := [(0, .ref 40960), (2, .int x2), (3, .int x3), (4, .int x4)]) (st' := [.int x4, .ref 41002]) 3 rfl ?_
      obtain ⟨v3, hv3, hD⟩ := Option.bind_eq_some_iff.mp hD
      refine k_ldI rfl rfl hv3 ?_
      refine k_runB (pc' := 23) (loc' := [(0, .ref 40960), (2, .int x2), (3, .int x3), (4, .int x4), (5, .int v3)]) (st' := [.int 2, .int v3]) 3 rfl ?_
      refine k_ic rfl (fun c23_3 => ?_) (fun c23_3 => ?_)
      · rw [c23_3, cond_true] at hD
        refine k_runB (pc' := 75) (loc' := [(0, .ref 40960), (2, .int x2), (3, .int (x3 + (-1))), (4, .int x4), (5, .int v3)]) (st' := [.int ((x3 + (-1)) - 1), .ref 41006]) 6 rfl ?_
        obtain ⟨v5, hv5, hD⟩ := Option.bind_eq_some_iff.mp hD
        refine k_ldI rfl rfl hv5 ?_
        refine k_runB (pc' := 83) (loc' := [(0, .ref 40960), (2, .int x2), (3, .int (x3 + (-1))), (4, .int x4), (5, .int v3), (6, .int v5)]) (st' := [.int (x3 + (-1)), .ref 41006]) 4 rfl ?_
        obtain ⟨v6, hv6, hD⟩ := Option.bind_eq_some_iff.mp hD
        refine k_ldI rfl rfl hv6 ?_
        refine k_runB (pc' := 89) (loc' := [(0, .ref 40960), (2, .int x2), (3, .int (x3 + (-1))), (4, .int x4), (5, .int v3), (6, .int v5), (7, .int v6)]) (st' := [.int 5, .int v3]) 3 rfl ?_
        refine k_ic rfl (fun c89_6 => ?_) (fun c89_6 => ?_)
        · rw [c89_6, cond_true] at hD
          refine k_wk [0, 2, 3, 4, 5, 6, 7] (loc' := [(0, .ref 40960), (2, .int x2), (3, .int (x3 + (-1))), (4, .int x4), (5, .int v3), (6, .int v5), (7, .int v6)]) rfl rfl ?_
          exact t_d_termOf_104 ht hK5 hD
        · rw [c89_6, cond_false] at hD
          refine k_runB (pc' := 94) (loc' := [(0, .ref 40960), (2, .int x2), (3, .int (x3 + (-1))), (4, .int x4), (5, .int v3), (6, .int v5), (7, .int v6)]) (st' := [.int v6]) 1 rfl ?_
          refine k_if rfl (fun c94_7 => ?_) (fun c94_7 => ?_)
          · rw [c94_7, cond_true] at hD
            refine k_wk [0, 2, 3, 4, 5, 6, 7] (loc' := [(0, .ref 40960), (2, .int x2), (3, .int (x3 + (-1))), (4, .int x4), (5, .int v3), (6, .int v5), (7, .int v6)]) rfl rfl ?_
            exact t_d_termOf_104 ht hK5 hD
          · rw [c94_7, cond_false] at hD
            refine k_runB (pc' := 99) (loc' := [(0, .ref 40960), (2, .int x2), (3, .int (x3 + (-1))), (4, .int x4), (5, .int v3), (6, .int v5), (7, .int v6)]) (st' := [.int 1, .ref 40960]) 2 rfl ?_
            obtain ⟨F9, hF9, hD⟩ := Option.bind_eq_some_iff.mp hD
            refine k_ptZ rfl (ht 63) rfl rfl hF9 ?_
            refine k_runB (pc' := 103) (loc' := [(0, .ref 40960), (2, .int x2), (3, .int (x3 + (-1))), (4, .int x4), (5, .int v3), (6, .int v5), (7, .int v6)]) (st' := [.int 0]) 1 rfl ?_
            cases hD
            exact k_iret rfl rfl
      · rw [c23_3, cond_false] at hD
        refine k_runB (pc' := 33) (loc' := [(0, .ref 40960), (2, .int x2), (3, .int x3), (4, .int x4), (5, .int v3)]) (st' := [.int v3, .int x3, .ref 41006]) 4 rfl ?_
        refine k_if rfl (fun c33_9 => ?_) (fun c33_9 => ?_)
        · rw [c33_9, cond_true] at hD
          refine k_runB (pc' := 56) (loc' := [(0, .ref 40960), (2, .int x2), (3, .int x3), (4, .int x4), (5, .int v3)]) (st' := [.int x4, .ref 41003, .ref 41005, .int x3, .ref 41006]) 5 rfl ?_
          obtain ⟨v11, hv11, hD⟩ := Option.bind_eq_some_iff.mp hD
          refine k_ldI rfl rfl hv11 ?_
          obtain ⟨v12, hv12, hD⟩ := Option.bind_eq_some_iff.mp hD
          refine k_ldI rfl rfl hv12 ?_
          obtain ⟨A13, hA13, hD⟩ := Option.bind_eq_some_iff.mp hD
          refine k_stI 46 rfl rfl (fun _ => rfl) hA13 ?_
          refine k_runB (pc' := 159) (loc' := [(0, .ref 40960), (2, .int x2), (3, .int (x3 + 1)), (4, .int x4), (5, .int v3)]) (st' := []) 2 rfl ?_
          refine k_wk [0, 2, 3, 4] (loc' := [(0, .ref 40960), (2, .int x2), (3, .int (x3 + 1)), (4, .int x4)]) rfl rfl ?_
          exact t_d_termOf_159 ht hK5 hD
        · rw [c33_9, cond_false] at hD
          refine k_runB (pc' := 42) (loc' := [(0, .ref 40960), (2, .int x2), (3, .int x3), (4, .int x4), (5, .int v3)]) (st' := [.int x4, .ref 41003, .int x3, .ref 41006]) 3 rfl ?_
          obtain ⟨v14, hv14, hD⟩ := Option.bind_eq_some_iff.mp hD
          refine k_ldI rfl rfl hv14 ?_
          refine k_runB (pc' := 58) (loc' := [(0, .ref 40960), (2, .int x2), (3, .int x3), (4, .int x4), (5, .int v3)]) (st' := [.int v14, .int x3, .ref 41006]) 1 rfl ?_
          refine k_wk [0, 2, 3, 4] (loc' := [(0, .ref 40960), (2, .int x2), (3, .int x3), (4, .int x4)]) rfl rfl ?_
          exact t_d_termOf_58 ht hK5 hD
/-- SleepWorkModel.termOf(II)I -/
def d_termOf (n : Nat) (F : Nat → Int32) (A : Nat → Nat → Int32) (J : Nat → Nat → Int64) (x1 : Int32) (x2 : Int32) : Option (Int32 × (Nat → Int32) × (Nat → Nat → Int32) × (Nat → Nat → Int64)) :=
  d_termOf_5 n F A J x2 0 x1
theorem t_d_termOf (ht : ∀ k, t.1 12 k = k_ty 12 k) {n : Nat} {x1 : Int32} {x2 : Int32} {r : Int32} {F' : Nat → Int32} {A' : Nat → Nat → Int32} {J' : Nat → Nat → Int64} : d_termOf n F A J x1 x2 = some (r, F', A', J') → k_run t lg (d) 176 0 [(0, .ref 40960), (1, .int x1), (2, .int x2)] [] (m_h c B F A J) (some (.int r), m_h c B F' A' J') := by
  intro hD
  unfold d_termOf at hD
  refine k_runB (pc' := 5) (loc' := [(0, .ref 40960), (1, .int x1), (2, .int x2), (3, .int 0), (4, .int x1)]) (st' := []) 4 rfl ?_
  refine k_wk [0, 2, 3, 4] (loc' := [(0, .ref 40960), (2, .int x2), (3, .int 0), (4, .int x1)]) rfl rfl ?_
  exact t_d_termOf_5 ht  hD
/-- SleepWorkModel.in(III)Z -/
def d_in (x0 : Int32) (x1 : Int32) (x2 : Int32) : Option Int32 :=
  cond (g_cnd .lt x0 x1)
  (some (0))
  (cond (g_cnd .gt x0 x2)
  (some (0))
  (some (1)))
theorem t_d_in {x0 : Int32} {x1 : Int32} {x2 : Int32} {r : Int32} : d_in x0 x1 x2 = some r → k_run t lg (d) 177 0 [(0, .int x0), (1, .int x1), (2, .int x2)] [] (m_h c B F A J) (some (.int r), m_h c B F A J) := by
  intro hD
  unfold d_in at hD
  refine k_runB (pc' := 2) (loc' := [(0, .int x0), (1, .int x1), (2, .int x2)]) (st' := [.int x1, .int x0]) 2 rfl ?_
  refine k_ic rfl (fun c2_0 => ?_) (fun c2_0 => ?_)
  · rw [c2_0, cond_true] at hD
    refine k_runB (pc' := 15) (loc' := [(0, .int x0), (1, .int x1), (2, .int x2)]) (st' := [.int 0]) 1 rfl ?_
    cases hD
    exact k_zret rfl rfl (Or.inl rfl)
  · rw [c2_0, cond_false] at hD
    refine k_runB (pc' := 7) (loc' := [(0, .int x0), (1, .int x1), (2, .int x2)]) (st' := [.int x2, .int x0]) 2 rfl ?_
    refine k_ic rfl (fun c7_1 => ?_) (fun c7_1 => ?_)
    · rw [c7_1, cond_true] at hD
      refine k_runB (pc' := 15) (loc' := [(0, .int x0), (1, .int x1), (2, .int x2)]) (st' := [.int 0]) 1 rfl ?_
      cases hD
      exact k_zret rfl rfl (Or.inl rfl)
    · rw [c7_1, cond_false] at hD
      refine k_runB (pc' := 15) (loc' := [(0, .int x0), (1, .int x1), (2, .int x2)]) (st' := [.int 1]) 2 rfl ?_
      cases hD
      exact k_zret rfl rfl (Or.inr rfl)
/-- SleepWorkModel.tasksNow()I -/
def d_tasksNow (F : Nat → Int32) (A : Nat → Nat → Int32) (J : Nat → Nat → Int64) : Option Int32 :=
  (m_ld (A 19) 2 (F 18)).bind fun v1 =>
  some (v1)
theorem t_d_tasksNow {r : Int32} : d_tasksNow F A J = some r → k_run t lg (d) 178 0 [(0, .ref 40960)] [] (m_h c B F A J) (some (.int r), m_h c B F A J) := by
  intro hD
  unfold d_tasksNow at hD
  refine k_runB (pc' := 8) (loc' := [(0, .ref 40960)]) (st' := [.int (F 18), .ref 40979]) 4 rfl ?_
  obtain ⟨v1, hv1, hD⟩ := Option.bind_eq_some_iff.mp hD
  refine k_ldI rfl rfl hv1 ?_
  cases hD
  exact k_iret rfl rfl
/-- SleepWorkModel.menNow()I -/
def d_menNow (F : Nat → Int32) (A : Nat → Nat → Int32) (J : Nat → Nat → Int64) : Option Int32 :=
  (m_ld (A 29) 2 (F 18)).bind fun v1 =>
  some (v1)
theorem t_d_menNow {r : Int32} : d_menNow F A J = some r → k_run t lg (d) 179 0 [(0, .ref 40960)] [] (m_h c B F A J) (some (.int r), m_h c B F A J) := by
  intro hD
  unfold d_menNow at hD
  refine k_runB (pc' := 8) (loc' := [(0, .ref 40960)]) (st' := [.int (F 18), .ref 40989]) 4 rfl ?_
  obtain ⟨v1, hv1, hD⟩ := Option.bind_eq_some_iff.mp hD
  refine k_ldI rfl rfl hv1 ?_
  cases hD
  exact k_iret rfl rfl
/-- SleepWorkModel.stepsOf(I)I -/
def d_stepsOf (F : Nat → Int32) (A : Nat → Nat → Int32) (J : Nat → Nat → Int64) (x1 : Int32) : Option Int32 :=
  (m_ld (A 22) 12 ((6 * (F 18)) + x1)).bind fun v1 =>
  some (v1)
theorem t_d_stepsOf {x1 : Int32} {r : Int32} : d_stepsOf F A J x1 = some r → k_run t lg (d) 180 0 [(0, .ref 40960), (1, .int x1)] [] (m_h c B F A J) (some (.int r), m_h c B F A J) := by
  intro hD
  unfold d_stepsOf at hD
  refine k_runB (pc' := 13) (loc' := [(0, .ref 40960), (1, .int x1)]) (st' := [.int ((6 * (F 18)) + x1), .ref 40982]) 8 rfl ?_
  obtain ⟨v1, hv1, hD⟩ := Option.bind_eq_some_iff.mp hD
  refine k_ldI rfl rfl hv1 ?_
  cases hD
  exact k_iret rfl rfl
/-- SleepWorkModel.stepAt(II)I -/
def d_stepAt (F : Nat → Int32) (A : Nat → Nat → Int32) (J : Nat → Nat → Int64) (x1 : Int32) (x2 : Int32) : Option Int32 :=
  some ((6 * ((6 * (F 18)) + x1)) + x2)
theorem t_d_stepAt {x1 : Int32} {x2 : Int32} {r : Int32} : d_stepAt F A J x1 x2 = some r → k_run t lg (d) 181 0 [(0, .ref 40960), (1, .int x1), (2, .int x2)] [] (m_h c B F A J) (some (.int r), m_h c B F A J) := by
  intro hD
  unfold d_stepAt at hD
  refine k_runB (pc' := 14) (loc' := [(0, .ref 40960), (1, .int x1), (2, .int x2)]) (st' := [.int ((6 * ((6 * (F 18)) + x1)) + x2)]) 10 rfl ?_
  cases hD
  exact k_iret rfl rfl
/-- SleepWorkModel.isTask(I)Z -/
def d_isTask (F : Nat → Int32) (A : Nat → Nat → Int32) (J : Nat → Nat → Int64) (x1 : Int32) : Option Int32 :=
  (d_tasksNow F A J).bind fun v1 =>
  (d_in x1 0 (v1 - 1)).bind fun v2 =>
  (m_zr v2).bind fun v3 => some (v3)
theorem t_d_isTask {x1 : Int32} {r : Int32} : d_isTask F A J x1 = some r → k_run t lg (d + 1) 182 0 [(0, .ref 40960), (1, .int x1)] [] (m_h c B F A J) (some (.int r), m_h c B F A J) := by
  intro hD
  unfold d_isTask at hD
  refine k_runB (pc' := 3) (loc' := [(0, .ref 40960), (1, .int x1)]) (st' := [.ref 40960, .int 0, .int x1]) 3 rfl ?_
  obtain ⟨v1, hv1, hD⟩ := Option.bind_eq_some_iff.mp hD
  refine k_runC rfl rfl rfl rfl (t_d_tasksNow (d := d) hv1) ?_
  refine k_runB (pc' := 8) (loc' := [(0, .ref 40960), (1, .int x1)]) (st' := [.int (v1 - 1), .int 0, .int x1]) 2 rfl ?_
  obtain ⟨v2, hv2, hD⟩ := Option.bind_eq_some_iff.mp hD
  refine k_runC rfl rfl rfl rfl (t_d_in (d := d) hv2) ?_
  obtain ⟨v3, hv3, hD⟩ := Option.bind_eq_some_iff.mp hD
  obtain ⟨gv3, rfl⟩ := m_zr_ok hv3
  cases hD
  exact k_zret rfl rfl gv3
/-- SleepWorkModel.isStep(II)Z -/
def d_isStep (F : Nat → Int32) (A : Nat → Nat → Int32) (J : Nat → Nat → Int64) (x1 : Int32) (x2 : Int32) : Option Int32 :=
  (d_isTask F A J x1).bind fun v1 =>
  cond (g_cnd .eq v1 0)
  (some (0))
  ((d_stepsOf F A J x1).bind fun v3 =>
  (d_in x2 0 (v3 - 1)).bind fun v4 =>
  cond (g_cnd .eq v4 0)
  (some (0))
  (some (1)))
theorem t_d_isStep {x1 : Int32} {x2 : Int32} {r : Int32} : d_isStep F A J x1 x2 = some r → k_run t lg (d + 2) 183 0 [(0, .ref 40960), (1, .int x1), (2, .int x2)] [] (m_h c B F A J) (some (.int r), m_h c B F A J) := by
  intro hD
  unfold d_isStep at hD
  refine k_runB (pc' := 2) (loc' := [(0, .ref 40960), (1, .int x1), (2, .int x2)]) (st' := [.int x1, .ref 40960]) 2 rfl ?_
  obtain ⟨v1, hv1, hD⟩ := Option.bind_eq_some_iff.mp hD
  refine k_runC rfl rfl rfl rfl (t_d_isTask (d := d) hv1) ?_
  refine k_if rfl (fun c5_1 => ?_) (fun c5_1 => ?_)
  · rw [c5_1, cond_true] at hD
    refine k_runB (pc' := 28) (loc' := [(0, .ref 40960), (1, .int x1), (2, .int x2)]) (st' := [.int 0]) 1 rfl ?_
    cases hD
    exact k_zret rfl rfl (Or.inl rfl)
  · rw [c5_1, cond_false] at hD
    refine k_runB (pc' := 12) (loc' := [(0, .ref 40960), (1, .int x1), (2, .int x2)]) (st' := [.int x1, .ref 40960, .int 0, .int x2]) 4 rfl ?_
    obtain ⟨v3, hv3, hD⟩ := Option.bind_eq_some_iff.mp hD
    refine k_runC rfl rfl rfl rfl (t_d_stepsOf (d := d + 1) hv3) ?_
    refine k_runB (pc' := 17) (loc' := [(0, .ref 40960), (1, .int x1), (2, .int x2)]) (st' := [.int (v3 - 1), .int 0, .int x2]) 2 rfl ?_
    obtain ⟨v4, hv4, hD⟩ := Option.bind_eq_some_iff.mp hD
    refine k_runC rfl rfl rfl rfl (t_d_in (d := d + 1) hv4) ?_
    refine k_if rfl (fun c20_4 => ?_) (fun c20_4 => ?_)
    · rw [c20_4, cond_true] at hD
      refine k_runB (pc' := 28) (loc' := [(0, .ref 40960), (1, .int x1), (2, .int x2)]) (st' := [.int 0]) 1 rfl ?_
      cases hD
      exact k_zret rfl rfl (Or.inl rfl)
    · rw [c20_4, cond_false] at hD
      refine k_runB (pc' := 28) (loc' := [(0, .ref 40960), (1, .int x1), (2, .int x2)]) (st' := [.int 1]) 2 rfl ?_
      cases hD
      exact k_zret rfl rfl (Or.inr rfl)
/-- SleepWorkModel.isMan(I)Z -/
def d_isMan (F : Nat → Int32) (A : Nat → Nat → Int32) (J : Nat → Nat → Int64) (x1 : Int32) : Option Int32 :=
  (d_menNow F A J).bind fun v1 =>
  (d_in x1 0 (v1 - 1)).bind fun v2 =>
  (m_zr v2).bind fun v3 => some (v3)
theorem t_d_isMan {x1 : Int32} {r : Int32} : d_isMan F A J x1 = some r → k_run t lg (d + 1) 184 0 [(0, .ref 40960), (1, .int x1)] [] (m_h c B F A J) (some (.int r), m_h c B F A J) := by
  intro hD
  unfold d_isMan at hD
  refine k_runB (pc' := 3) (loc' := [(0, .ref 40960), (1, .int x1)]) (st' := [.ref 40960, .int 0, .int x1]) 3 rfl ?_
  obtain ⟨v1, hv1, hD⟩ := Option.bind_eq_some_iff.mp hD
  refine k_runC rfl rfl rfl rfl (t_d_menNow (d := d) hv1) ?_
  refine k_runB (pc' := 8) (loc' := [(0, .ref 40960), (1, .int x1)]) (st' := [.int (v1 - 1), .int 0, .int x1]) 2 rfl ?_
  obtain ⟨v2, hv2, hD⟩ := Option.bind_eq_some_iff.mp hD
  refine k_runC rfl rfl rfl rfl (t_d_in (d := d) hv2) ?_
  obtain ⟨v3, hv3, hD⟩ := Option.bind_eq_some_iff.mp hD
  obtain ⟨gv3, rfl⟩ := m_zr_ok hv3
  cases hD
  exact k_zret rfl rfl gv3
/-- SleepWorkModel.isRoom(I)Z -/
def d_isRoom (F : Nat → Int32) (A : Nat → Nat → Int32) (J : Nat → Nat → Int64) (x1 : Int32) : Option Int32 :=
  (m_ld (A 11) 2 (F 18)).bind fun v1 =>
  (d_in x1 0 (v1 - 1)).bind fun v2 =>
  (m_zr v2).bind fun v3 => some (v3)
theorem t_d_isRoom {x1 : Int32} {r : Int32} : d_isRoom F A J x1 = some r → k_run t lg (d + 1) 185 0 [(0, .ref 40960), (1, .int x1)] [] (m_h c B F A J) (some (.int r), m_h c B F A J) := by
  intro hD
  unfold d_isRoom at hD
  refine k_runB (pc' := 10) (loc' := [(0, .ref 40960), (1, .int x1)]) (st' := [.int (F 18), .ref 40971, .int 0, .int x1]) 6 rfl ?_
  obtain ⟨v1, hv1, hD⟩ := Option.bind_eq_some_iff.mp hD
  refine k_ldI rfl rfl hv1 ?_
  refine k_runB (pc' := 13) (loc' := [(0, .ref 40960), (1, .int x1)]) (st' := [.int (v1 - 1), .int 0, .int x1]) 2 rfl ?_
  obtain ⟨v2, hv2, hD⟩ := Option.bind_eq_some_iff.mp hD
  refine k_runC rfl rfl rfl rfl (t_d_in (d := d) hv2) ?_
  obtain ⟨v3, hv3, hD⟩ := Option.bind_eq_some_iff.mp hD
  obtain ⟨gv3, rfl⟩ := m_zr_ok hv3
  cases hD
  exact k_zret rfl rfl gv3
/-- SleepWorkModel.isTool(I)Z -/
def d_isTool (F : Nat → Int32) (A : Nat → Nat → Int32) (J : Nat → Nat → Int64) (x1 : Int32) : Option Int32 :=
  (m_ld (A 17) 2 (F 18)).bind fun v1 =>
  (d_in x1 0 (v1 - 1)).bind fun v2 =>
  (m_zr v2).bind fun v3 => some (v3)
theorem t_d_isTool {x1 : Int32} {r : Int32} : d_isTool F A J x1 = some r → k_run t lg (d + 1) 186 0 [(0, .ref 40960), (1, .int x1)] [] (m_h c B F A J) (some (.int r), m_h c B F A J) := by
  intro hD
  unfold d_isTool at hD
  refine k_runB (pc' := 10) (loc' := [(0, .ref 40960), (1, .int x1)]) (st' := [.int (F 18), .ref 40977, .int 0, .int x1]) 6 rfl ?_
  obtain ⟨v1, hv1, hD⟩ := Option.bind_eq_some_iff.mp hD
  refine k_ldI rfl rfl hv1 ?_
  refine k_runB (pc' := 13) (loc' := [(0, .ref 40960), (1, .int x1)]) (st' := [.int (v1 - 1), .int 0, .int x1]) 2 rfl ?_
  obtain ⟨v2, hv2, hD⟩ := Option.bind_eq_some_iff.mp hD
  refine k_runC rfl rfl rfl rfl (t_d_in (d := d) hv2) ?_
  obtain ⟨v3, hv3, hD⟩ := Option.bind_eq_some_iff.mp hD
  obtain ⟨gv3, rfl⟩ := m_zr_ok hv3
  cases hD
  exact k_zret rfl rfl gv3
def d_begins_219 (K176 : (Nat → Int32) → (Nat → Nat → Int32) → (Nat → Nat → Int64) → Int32 → Option (Unit × (Nat → Int32) × (Nat → Nat → Int32) × (Nat → Nat → Int64))) (n : Nat) (F : Nat → Int32) (A : Nat → Nat → Int32) (J : Nat → Nat → Int64) (x1 : Int32) : Option (Unit × (Nat → Int32) × (Nat → Nat → Int32) × (Nat → Nat → Int64)) :=
    K176 F A J (x1 + 1)
theorem t_d_begins_219 {n : Nat} {K176 : (Nat → Int32) → (Nat → Nat → Int32) → (Nat → Nat → Int64) → Int32 → Option (Unit × (Nat → Int32) × (Nat → Nat → Int32) × (Nat → Nat → Int64))} (hK176 : ∀ (F : Nat → Int32) (A : Nat → Nat → Int32) (J : Nat → Nat → Int64) (x1 : Int32) (w : Unit × (Nat → Int32) × (Nat → Nat → Int32) × (Nat → Nat → Int64)), K176 F A J x1 = some w → k_run t lg (d + 1) 187 176 [(0, .ref 40960), (1, .int x1)] [] (m_h c B F A J) (none, m_h c B w.2.1 w.2.2.1 w.2.2.2)) {F : Nat → Int32} {A : Nat → Nat → Int32} {J : Nat → Nat → Int64} {x1 : Int32} {w : Unit × (Nat → Int32) × (Nat → Nat → Int32) × (Nat → Nat → Int64)} : d_begins_219 K176 n F A J x1 = some w → k_run t lg (d + 1) 187 219 [(0, .ref 40960), (1, .int x1)] [] (m_h c B F A J) (none, m_h c B w.2.1 w.2.2.1 w.2.2.2) := by
  intro hD
  unfold d_begins_219 at hD
  refine k_runB (pc' := 176) (loc' := [(0, .ref 40960), (1, .int (x1 + 1))]) (st' := []) 2 rfl ?_
  refine k_wk [0, 1] (loc' := [(0, .ref 40960), (1, .int (x1 + 1))]) rfl rfl ?_
  exact hK176 _ _ _ _ _ hD
def d_begins_176 : Nat → (Nat → Int32) → (Nat → Nat → Int32) → (Nat → Nat → Int64) → Int32 → Option (Unit × (Nat → Int32) × (Nat → Nat → Int32) × (Nat → Nat → Int64))
  | 0, _, _, _, _ => none
  | n + 1, F, A, J, x1 => (m_ld (A 12) 2 (F 18)).bind fun v18 =>
    cond (g_cnd .ge x1 v18)
    (some ((), F, A, J))
    ((m_ld (A 16) 24 ((12 * (F 18)) + x1)).bind fun v20 =>
    cond (g_cnd .eq v20 0)
    (d_begins_219 (d_begins_176 n) n F A J x1)
    ((m_ld (A 47) 100 78).bind fun v22 =>
    (m_st A 47 100 78 (v22 ||| (1 <<< (x1 &&& 31)))).bind fun A23 =>
    (d_begins_176 n) F A23 J (x1 + 1)))
theorem t_d_begins_176 {n : Nat}  {F : Nat → Int32} {A : Nat → Nat → Int32} {J : Nat → Nat → Int64} {x1 : Int32} {w : Unit × (Nat → Int32) × (Nat → Nat → Int32) × (Nat → Nat → Int64)} : d_begins_176 n F A J x1 = some w → k_run t lg (d + 1) 187 176 [(0, .ref 40960), (1, .int x1)] [] (m_h c B F A J) (none, m_h c B w.2.1 w.2.2.1 w.2.2.2) := by
  induction n generalizing F A J x1 w with
  | zero => intro hD; cases hD
  | succ n ih =>
    intro hD
    have hK176 : ∀ (F : Nat → Int32) (A : Nat → Nat → Int32) (J : Nat → Nat → Int64) (x1 : Int32) (w : Unit × (Nat → Int32) × (Nat → Nat → Int32) × (Nat → Nat → Int64)), d_begins_176 n F A J x1 = some w → k_run t lg (d + 1) 187 176 [(0, .ref 40960), (1, .int x1)] [] (m_h c B F A J) (none, m_h c B w.2.1 w.2.2.1 w.2.2.2) := fun _ _ _ _ _ h => ih h
    unfold d_begins_176 at hD
    refine k_runB (pc' := 185) (loc' := [(0, .ref 40960), (1, .int x1)]) (st' := [.int (F 18), .ref 40972, .int x1]) 5 rfl ?_
    obtain ⟨v18, hv18, hD⟩ := Option.bind_eq_some_iff.mp hD
    refine k_ldI rfl rfl hv18 ?_
    refine k_ic rfl (fun c186_18 => ?_) (fun c186_18 => ?_)
    · rw [c186_18, cond_true] at hD
      cases hD
      exact k_vret rfl rfl
    · rw [c186_18, cond_false] at hD
      refine k_runB (pc' := 202) (loc' := [(0, .ref 40960), (1, .int x1)]) (st' := [.int ((12 * (F 18)) + x1), .ref 40976]) 8 rfl ?_
      obtain ⟨v20, hv20, hD⟩ := Option.bind_eq_some_iff.mp hD
      refine k_ldZ rfl rfl hv20 ?_
      refine k_if rfl (fun c203_20 => ?_) (fun c203_20 => ?_)
      · rw [c203_20, cond_true] at hD
        refine k_wk [0, 1] (loc' := [(0, .ref 40960), (1, .int x1)]) rfl rfl ?_
        exact t_d_begins_219 hK176 hD
      · rw [c203_20, cond_false] at hD
        refine k_runB (pc' := 213) (loc' := [(0, .ref 40960), (1, .int x1)]) (st' := [.int 78, .ref 41007, .int 78, .ref 41007]) 4 rfl ?_
        obtain ⟨v22, hv22, hD⟩ := Option.bind_eq_some_iff.mp hD
        refine k_ldI rfl rfl hv22 ?_
        refine k_runB (pc' := 218) (loc' := [(0, .ref 40960), (1, .int x1)]) (st' := [.int (v22 ||| (1 <<< (x1 &&& 31))), .int 78, .ref 41007]) 4 rfl ?_
        obtain ⟨A23, hA23, hD⟩ := Option.bind_eq_some_iff.mp hD
        refine k_stI 47 rfl rfl (fun _ => rfl) hA23 ?_
        refine k_runB (pc' := 176) (loc' := [(0, .ref 40960), (1, .int (x1 + 1))]) (st' := []) 2 rfl ?_
        refine k_wk [0, 1] (loc' := [(0, .ref 40960), (1, .int (x1 + 1))]) rfl rfl ?_
        exact hK176 _ _ _ _ _ hD
def d_begins_132 : Nat → (Nat → Int32) → (Nat → Nat → Int32) → (Nat → Nat → Int64) → Int32 → Option (Unit × (Nat → Int32) × (Nat → Nat → Int32) × (Nat → Nat → Int64))
  | 0, _, _, _, _ => none
  | n + 1, F, A, J, x1 => (m_ld (A 17) 2 (F 18)).bind fun v14 =>
    cond (g_cnd .ge x1 v14)
    (d_begins_176 n F A J 0)
    ((m_ld (A 18) 12 ((6 * (F 18)) + x1)).bind fun v16 =>
    (m_st A 47 100 (72 + x1) v16).bind fun A17 =>
    (d_begins_132 n) F A17 J (x1 + 1))
theorem t_d_begins_132 {n : Nat}  {F : Nat → Int32} {A : Nat → Nat → Int32} {J : Nat → Nat → Int64} {x1 : Int32} {w : Unit × (Nat → Int32) × (Nat → Nat → Int32) × (Nat → Nat → Int64)} : d_begins_132 n F A J x1 = some w → k_run t lg (d + 1) 187 132 [(0, .ref 40960), (1, .int x1)] [] (m_h c B F A J) (none, m_h c B w.2.1 w.2.2.1 w.2.2.2) := by
  induction n generalizing F A J x1 w with
  | zero => intro hD; cases hD
  | succ n ih =>
    intro hD
    have hK132 : ∀ (F : Nat → Int32) (A : Nat → Nat → Int32) (J : Nat → Nat → Int64) (x1 : Int32) (w : Unit × (Nat → Int32) × (Nat → Nat → Int32) × (Nat → Nat → Int64)), d_begins_132 n F A J x1 = some w → k_run t lg (d + 1) 187 132 [(0, .ref 40960), (1, .int x1)] [] (m_h c B F A J) (none, m_h c B w.2.1 w.2.2.1 w.2.2.2) := fun _ _ _ _ _ h => ih h
    unfold d_begins_132 at hD
    refine k_runB (pc' := 141) (loc' := [(0, .ref 40960), (1, .int x1)]) (st' := [.int (F 18), .ref 40977, .int x1]) 5 rfl ?_
    obtain ⟨v14, hv14, hD⟩ := Option.bind_eq_some_iff.mp hD
    refine k_ldI rfl rfl hv14 ?_
    refine k_ic rfl (fun c142_14 => ?_) (fun c142_14 => ?_)
    · rw [c142_14, cond_true] at hD
      refine k_runB (pc' := 176) (loc' := [(0, .ref 40960), (1, .int 0)]) (st' := []) 2 rfl ?_
      refine k_wk [0, 1] (loc' := [(0, .ref 40960), (1, .int 0)]) rfl rfl ?_
      exact t_d_begins_176  hD
    · rw [c142_14, cond_false] at hD
      refine k_runB (pc' := 166) (loc' := [(0, .ref 40960), (1, .int x1)]) (st' := [.int ((6 * (F 18)) + x1), .ref 40978, .int (72 + x1), .ref 41007]) 13 rfl ?_
      obtain ⟨v16, hv16, hD⟩ := Option.bind_eq_some_iff.mp hD
      refine k_ldI rfl rfl hv16 ?_
      obtain ⟨A17, hA17, hD⟩ := Option.bind_eq_some_iff.mp hD
      refine k_stI 47 rfl rfl (fun _ => rfl) hA17 ?_
      refine k_runB (pc' := 132) (loc' := [(0, .ref 40960), (1, .int (x1 + 1))]) (st' := []) 2 rfl ?_
      refine k_wk [0, 1] (loc' := [(0, .ref 40960), (1, .int (x1 + 1))]) rfl rfl ?_
      exact hK132 _ _ _ _ _ hD
def d_begins_59 : Nat → (Nat → Int32) → (Nat → Nat → Int32) → (Nat → Nat → Int64) → Int32 → Option (Unit × (Nat → Int32) × (Nat → Nat → Int32) × (Nat → Nat → Int64))
  | 0, _, _, _, _ => none
  | n + 1, F, A, J, x1 => (d_menNow F A J).bind fun v7 =>
    cond (g_cnd .ge x1 v7)
    (d_begins_132 n F A J 0)
    ((m_ld (A 31) 12 ((6 * (F 18)) + x1)).bind fun v9 =>
    (m_st A 47 100 (42 + x1) v9).bind fun A10 =>
    (m_ld (A10 32) 12 ((6 * (F 18)) + x1)).bind fun v11 =>
    (m_st A10 47 100 (48 + x1) v11).bind fun A12 =>
    (m_st A12 47 100 (66 + x1) ((-2))).bind fun A13 =>
    (d_begins_59 n) F A13 J (x1 + 1))
theorem t_d_begins_59 {n : Nat}  {F : Nat → Int32} {A : Nat → Nat → Int32} {J : Nat → Nat → Int64} {x1 : Int32} {w : Unit × (Nat → Int32) × (Nat → Nat → Int32) × (Nat → Nat → Int64)} : d_begins_59 n F A J x1 = some w → k_run t lg (d + 1) 187 59 [(0, .ref 40960), (1, .int x1)] [] (m_h c B F A J) (none, m_h c B w.2.1 w.2.2.1 w.2.2.2) := by
  induction n generalizing F A J x1 w with
  | zero => intro hD; cases hD
  | succ n ih =>
    intro hD
    have hK59 : ∀ (F : Nat → Int32) (A : Nat → Nat → Int32) (J : Nat → Nat → Int64) (x1 : Int32) (w : Unit × (Nat → Int32) × (Nat → Nat → Int32) × (Nat → Nat → Int64)), d_begins_59 n F A J x1 = some w → k_run t lg (d + 1) 187 59 [(0, .ref 40960), (1, .int x1)] [] (m_h c B F A J) (none, m_h c B w.2.1 w.2.2.1 w.2.2.2) := fun _ _ _ _ _ h => ih h
    unfold d_begins_59 at hD
    refine k_runB (pc' := 61) (loc' := [(0, .ref 40960), (1, .int x1)]) (st' := [.ref 40960, .int x1]) 2 rfl ?_
    obtain ⟨v7, hv7, hD⟩ := Option.bind_eq_some_iff.mp hD
    refine k_runC rfl rfl rfl rfl (t_d_menNow (d := d) hv7) ?_
    refine k_ic rfl (fun c64_7 => ?_) (fun c64_7 => ?_)
    · rw [c64_7, cond_true] at hD
      refine k_runB (pc' := 132) (loc' := [(0, .ref 40960), (1, .int 0)]) (st' := []) 2 rfl ?_
      refine k_wk [0, 1] (loc' := [(0, .ref 40960), (1, .int 0)]) rfl rfl ?_
      exact t_d_begins_132  hD
    · rw [c64_7, cond_false] at hD
      refine k_runB (pc' := 88) (loc' := [(0, .ref 40960), (1, .int x1)]) (st' := [.int ((6 * (F 18)) + x1), .ref 40991, .int (42 + x1), .ref 41007]) 13 rfl ?_
      obtain ⟨v9, hv9, hD⟩ := Option.bind_eq_some_iff.mp hD
      refine k_ldI rfl rfl hv9 ?_
      obtain ⟨A10, hA10, hD⟩ := Option.bind_eq_some_iff.mp hD
      refine k_stI 47 rfl rfl (fun _ => rfl) hA10 ?_
      refine k_runB (pc' := 111) (loc' := [(0, .ref 40960), (1, .int x1)]) (st' := [.int ((6 * (F 18)) + x1), .ref 40992, .int (48 + x1), .ref 41007]) 13 rfl ?_
      obtain ⟨v11, hv11, hD⟩ := Option.bind_eq_some_iff.mp hD
      refine k_ldI rfl rfl hv11 ?_
      obtain ⟨A12, hA12, hD⟩ := Option.bind_eq_some_iff.mp hD
      refine k_stI 47 rfl rfl (fun _ => rfl) hA12 ?_
      refine k_runB (pc' := 123) (loc' := [(0, .ref 40960), (1, .int x1)]) (st' := [.int ((-2)), .int (66 + x1), .ref 41007]) 6 rfl ?_
      obtain ⟨A13, hA13, hD⟩ := Option.bind_eq_some_iff.mp hD
      refine k_stI 47 rfl rfl (fun _ => rfl) hA13 ?_
      refine k_runB (pc' := 59) (loc' := [(0, .ref 40960), (1, .int (x1 + 1))]) (st' := []) 2 rfl ?_
      refine k_wk [0, 1] (loc' := [(0, .ref 40960), (1, .int (x1 + 1))]) rfl rfl ?_
      exact hK59 _ _ _ _ _ hD
def d_begins_23 : Nat → (Nat → Int32) → (Nat → Nat → Int32) → (Nat → Nat → Int64) → Int32 → Option (Unit × (Nat → Int32) × (Nat → Nat → Int32) × (Nat → Nat → Int64))
  | 0, _, _, _, _ => none
  | n + 1, F, A, J, x1 => (d_tasksNow F A J).bind fun v3 =>
    cond (g_cnd .ge x1 v3)
    (d_begins_59 n F A J 0)
    ((m_ld (A 21) 12 ((6 * (F 18)) + x1)).bind fun v5 =>
    (m_st A 47 100 x1 v5).bind fun A6 =>
    (d_begins_23 n) F A6 J (x1 + 1))
theorem t_d_begins_23 {n : Nat}  {F : Nat → Int32} {A : Nat → Nat → Int32} {J : Nat → Nat → Int64} {x1 : Int32} {w : Unit × (Nat → Int32) × (Nat → Nat → Int32) × (Nat → Nat → Int64)} : d_begins_23 n F A J x1 = some w → k_run t lg (d + 1) 187 23 [(0, .ref 40960), (1, .int x1)] [] (m_h c B F A J) (none, m_h c B w.2.1 w.2.2.1 w.2.2.2) := by
  induction n generalizing F A J x1 w with
  | zero => intro hD; cases hD
  | succ n ih =>
    intro hD
    have hK23 : ∀ (F : Nat → Int32) (A : Nat → Nat → Int32) (J : Nat → Nat → Int64) (x1 : Int32) (w : Unit × (Nat → Int32) × (Nat → Nat → Int32) × (Nat → Nat → Int64)), d_begins_23 n F A J x1 = some w → k_run t lg (d + 1) 187 23 [(0, .ref 40960), (1, .int x1)] [] (m_h c B F A J) (none, m_h c B w.2.1 w.2.2.1 w.2.2.2) := fun _ _ _ _ _ h => ih h
    unfold d_begins_23 at hD
    refine k_runB (pc' := 25) (loc' := [(0, .ref 40960), (1, .int x1)]) (st' := [.ref 40960, .int x1]) 2 rfl ?_
    obtain ⟨v3, hv3, hD⟩ := Option.bind_eq_some_iff.mp hD
    refine k_runC rfl rfl rfl rfl (t_d_tasksNow (d := d) hv3) ?_
    refine k_ic rfl (fun c28_3 => ?_) (fun c28_3 => ?_)
    · rw [c28_3, cond_true] at hD
      refine k_runB (pc' := 59) (loc' := [(0, .ref 40960), (1, .int 0)]) (st' := []) 2 rfl ?_
      refine k_wk [0, 1] (loc' := [(0, .ref 40960), (1, .int 0)]) rfl rfl ?_
      exact t_d_begins_59  hD
    · rw [c28_3, cond_false] at hD
      refine k_runB (pc' := 49) (loc' := [(0, .ref 40960), (1, .int x1)]) (st' := [.int ((6 * (F 18)) + x1), .ref 40981, .int x1, .ref 41007]) 11 rfl ?_
      obtain ⟨v5, hv5, hD⟩ := Option.bind_eq_some_iff.mp hD
      refine k_ldI rfl rfl hv5 ?_
      obtain ⟨A6, hA6, hD⟩ := Option.bind_eq_some_iff.mp hD
      refine k_stI 47 rfl rfl (fun _ => rfl) hA6 ?_
      refine k_runB (pc' := 23) (loc' := [(0, .ref 40960), (1, .int (x1 + 1))]) (st' := []) 2 rfl ?_
      refine k_wk [0, 1] (loc' := [(0, .ref 40960), (1, .int (x1 + 1))]) rfl rfl ?_
      exact hK23 _ _ _ _ _ hD
def d_begins_2 : Nat → (Nat → Int32) → (Nat → Nat → Int32) → (Nat → Nat → Int64) → Int32 → Option (Unit × (Nat → Int32) × (Nat → Nat → Int32) × (Nat → Nat → Int64))
  | 0, _, _, _, _ => none
  | n + 1, F, A, J, x1 => cond (g_cnd .ge x1 100)
    (d_begins_23 n F A J 0)
    ((m_st A 47 100 x1 0).bind fun A2 =>
    (d_begins_2 n) F A2 J (x1 + 1))
theorem t_d_begins_2 {n : Nat}  {F : Nat → Int32} {A : Nat → Nat → Int32} {J : Nat → Nat → Int64} {x1 : Int32} {w : Unit × (Nat → Int32) × (Nat → Nat → Int32) × (Nat → Nat → Int64)} : d_begins_2 n F A J x1 = some w → k_run t lg (d + 1) 187 2 [(0, .ref 40960), (1, .int x1)] [] (m_h c B F A J) (none, m_h c B w.2.1 w.2.2.1 w.2.2.2) := by
  induction n generalizing F A J x1 w with
  | zero => intro hD; cases hD
  | succ n ih =>
    intro hD
    have hK2 : ∀ (F : Nat → Int32) (A : Nat → Nat → Int32) (J : Nat → Nat → Int64) (x1 : Int32) (w : Unit × (Nat → Int32) × (Nat → Nat → Int32) × (Nat → Nat → Int64)), d_begins_2 n F A J x1 = some w → k_run t lg (d + 1) 187 2 [(0, .ref 40960), (1, .int x1)] [] (m_h c B F A J) (none, m_h c B w.2.1 w.2.2.1 w.2.2.2) := fun _ _ _ _ _ h => ih h
    unfold d_begins_2 at hD
    refine k_runB (pc' := 5) (loc' := [(0, .ref 40960), (1, .int x1)]) (st' := [.int 100, .int x1]) 2 rfl ?_
    refine k_ic rfl (fun c5_0 => ?_) (fun c5_0 => ?_)
    · rw [c5_0, cond_true] at hD
      refine k_runB (pc' := 23) (loc' := [(0, .ref 40960), (1, .int 0)]) (st' := []) 2 rfl ?_
      refine k_wk [0, 1] (loc' := [(0, .ref 40960), (1, .int 0)]) rfl rfl ?_
      exact t_d_begins_23  hD
    · rw [c5_0, cond_false] at hD
      refine k_runB (pc' := 14) (loc' := [(0, .ref 40960), (1, .int x1)]) (st' := [.int 0, .int x1, .ref 41007]) 4 rfl ?_
      obtain ⟨A2, hA2, hD⟩ := Option.bind_eq_some_iff.mp hD
      refine k_stI 47 rfl rfl (fun _ => rfl) hA2 ?_
      refine k_runB (pc' := 2) (loc' := [(0, .ref 40960), (1, .int (x1 + 1))]) (st' := []) 2 rfl ?_
      refine k_wk [0, 1] (loc' := [(0, .ref 40960), (1, .int (x1 + 1))]) rfl rfl ?_
      exact hK2 _ _ _ _ _ hD
/-- SleepWorkModel.begins()V -/
def d_begins (n : Nat) (F : Nat → Int32) (A : Nat → Nat → Int32) (J : Nat → Nat → Int64) : Option (Unit × (Nat → Int32) × (Nat → Nat → Int32) × (Nat → Nat → Int64)) :=
  d_begins_2 n F A J 0
theorem t_d_begins {n : Nat} {r : Unit} {F' : Nat → Int32} {A' : Nat → Nat → Int32} {J' : Nat → Nat → Int64} : d_begins n F A J = some (r, F', A', J') → k_run t lg (d + 1) 187 0 [(0, .ref 40960)] [] (m_h c B F A J) (none, m_h c B F' A' J') := by
  intro hD
  unfold d_begins at hD
  refine k_runB (pc' := 2) (loc' := [(0, .ref 40960), (1, .int 0)]) (st' := []) 2 rfl ?_
  refine k_wk [0, 1] (loc' := [(0, .ref 40960), (1, .int 0)]) rfl rfl ?_
  exact t_d_begins_2  hD
end MD
