/-! the reference's methods as functions (printed by wip/dec.py) -/
section MD
variable {t : gT} {lg : Nat → Nat} {d : Nat} {c : Nat × Nat} {B : Nat → List gE} {F : Nat → Int32} {A : Nat → Nat → Int32} {J : Nat → Nat → Int64}
/-- SleepWorkModel.task(II)I -/
def d_task (n : Nat) (F : Nat → Int32) (A : Nat → Nat → Int32) (J : Nat → Nat → Int64) (x1 : Int32) (x2 : Int32) : Option (Int32 × (Nat → Int32) × (Nat → Nat → Int32) × (Nat → Nat → Int64)) :=
  (d_isTask F A J x1).bind fun v1 =>
  cond (g_cnd .ne v1 0)
  ((d_takes n F A J).bind fun (_, F4, A5, J6) =>
  cond (decide (x2 = 0))
  ((m_ld (A5 20) 12 ((6 * (F4 18)) + x1)).bind fun v8 =>
  some (v8, F4, A5, J6))
  (cond (decide (x2 = 1))
  ((d_stepsOf F4 A5 J6 x1).bind fun v9 =>
  some (v9, F4, A5, J6))
  (cond (decide (x2 = 2))
  ((m_ld (A5 48) 100 x1).bind fun v10 =>
  some (v10, F4, A5, J6))
  (cond (decide (x2 = 3))
  ((d_worthOf n F4 A5 J6 x1).bind fun v11 =>
  some (v11, F4, A5, J6))
  (cond (decide (x2 = 4))
  ((d_isEnded n F4 A5 J6 x1).bind fun v12 =>
  cond (g_cnd .eq v12 0)
  (some (0, F4, A5, J6))
  (some (1, F4, A5, J6)))
  (some ((-1), F4, A5, J6)))))))
  (some ((-1), F, A, J))
theorem t_d_task {n : Nat} {x1 : Int32} {x2 : Int32} {r : Int32} {F' : Nat → Int32} {A' : Nat → Nat → Int32} {J' : Nat → Nat → Int64} : d_task n F A J x1 x2 = some (r, F', A', J') → k_run t lg (d + 2) 202 0 [(0, .ref 40960), (1, .int x1), (2, .int x2)] [] (m_h c B F A J) (some (.int r), m_h c B F' A' J') := by
  intro hD
  unfold d_task at hD
  refine k_runB (pc' := 2) (loc' := [(0, .ref 40960), (1, .int x1), (2, .int x2)]) (st' := [.int x1, .ref 40960]) 2 rfl ?_
  obtain ⟨v1, hv1, hD⟩ := Option.bind_eq_some_iff.mp hD
  refine k_runC rfl rfl rfl rfl (t_d_isTask (d := d) hv1) ?_
  refine k_if rfl (fun c5_1 => ?_) (fun c5_1 => ?_)
  · rw [c5_1, cond_true] at hD
    refine k_runB (pc' := 11) (loc' := [(0, .ref 40960), (1, .int x1), (2, .int x2)]) (st' := [.ref 40960]) 1 rfl ?_
    obtain ⟨⟨v3, F4, A5, J6⟩, hv3, hD⟩ := Option.bind_eq_some_iff.mp hD
    dsimp only at hD
    refine k_runC rfl rfl rfl rfl (t_d_takes (d := d + 1) hv3) ?_
    refine k_runB (pc' := 15) (loc' := [(0, .ref 40960), (1, .int x1), (2, .int x2)]) (st' := [.int x2]) 1 rfl ?_
    cases c15_6_0 : decide (x2 = 0) with
    | true =>
      rw [c15_6_0, cond_true] at hD
      refine k_tab (tgt := 48) rfl (by rw [of_decide_eq_true c15_6_0]; decide) ?_
      refine k_runB (pc' := 61) (loc' := [(0, .ref 40960), (1, .int x1), (2, .int x2)]) (st' := [.int ((6 * (F4 18)) + x1), .ref 40980]) 8 rfl ?_
      obtain ⟨v8, hv8, hD⟩ := Option.bind_eq_some_iff.mp hD
      refine k_ldI rfl rfl hv8 ?_
      cases hD
      exact k_iret rfl rfl
    | false =>
      rw [c15_6_0, cond_false] at hD
      cases c15_6_1 : decide (x2 = 1) with
      | true =>
        rw [c15_6_1, cond_true] at hD
        refine k_tab (tgt := 63) rfl (by rw [of_decide_eq_true c15_6_1]; decide) ?_
        refine k_runB (pc' := 65) (loc' := [(0, .ref 40960), (1, .int x1), (2, .int x2)]) (st' := [.int x1, .ref 40960]) 2 rfl ?_
        obtain ⟨v9, hv9, hD⟩ := Option.bind_eq_some_iff.mp hD
        refine k_runC rfl rfl rfl rfl (t_d_stepsOf (d := d + 1) hv9) ?_
        cases hD
        exact k_iret rfl rfl
      | false =>
        rw [c15_6_1, cond_false] at hD
        cases c15_6_2 : decide (x2 = 2) with
        | true =>
          rw [c15_6_2, cond_true] at hD
          refine k_tab (tgt := 69) rfl (by rw [of_decide_eq_true c15_6_2]; decide) ?_
          refine k_runB (pc' := 74) (loc' := [(0, .ref 40960), (1, .int x1), (2, .int x2)]) (st' := [.int x1, .ref 41008]) 3 rfl ?_
          obtain ⟨v10, hv10, hD⟩ := Option.bind_eq_some_iff.mp hD
          refine k_ldI rfl rfl hv10 ?_
          cases hD
          exact k_iret rfl rfl
        | false =>
          rw [c15_6_2, cond_false] at hD
          cases c15_6_3 : decide (x2 = 3) with
          | true =>
            rw [c15_6_3, cond_true] at hD
            refine k_tab (tgt := 76) rfl (by rw [of_decide_eq_true c15_6_3]; decide) ?_
            refine k_runB (pc' := 78) (loc' := [(0, .ref 40960), (1, .int x1), (2, .int x2)]) (st' := [.int x1, .ref 40960]) 2 rfl ?_
            obtain ⟨v11, hv11, hD⟩ := Option.bind_eq_some_iff.mp hD
            refine k_runC rfl rfl rfl rfl (t_d_worthOf (d := d) hv11) ?_
            cases hD
            exact k_iret rfl rfl
          | false =>
            rw [c15_6_3, cond_false] at hD
            cases c15_6_4 : decide (x2 = 4) with
            | true =>
              rw [c15_6_4, cond_true] at hD
              refine k_tab (tgt := 82) rfl (by rw [of_decide_eq_true c15_6_4]; decide) ?_
              refine k_runB (pc' := 84) (loc' := [(0, .ref 40960), (1, .int x1), (2, .int x2)]) (st' := [.int x1, .ref 40960]) 2 rfl ?_
              obtain ⟨v12, hv12, hD⟩ := Option.bind_eq_some_iff.mp hD
              refine k_runC rfl rfl rfl rfl (t_d_isEnded (d := d) hv12) ?_
              refine k_if rfl (fun c87_12 => ?_) (fun c87_12 => ?_)
              · rw [c87_12, cond_true] at hD
                refine k_runB (pc' := 95) (loc' := [(0, .ref 40960), (1, .int x1), (2, .int x2)]) (st' := [.int 0]) 1 rfl ?_
                cases hD
                exact k_iret rfl rfl
              · rw [c87_12, cond_false] at hD
                refine k_runB (pc' := 95) (loc' := [(0, .ref 40960), (1, .int x1), (2, .int x2)]) (st' := [.int 1]) 2 rfl ?_
                cases hD
                exact k_iret rfl rfl
            | false =>
              rw [c15_6_4, cond_false] at hD
              refine k_tab (tgt := 96) rfl (by rw [if_pos (m_out (lo := 0) (hi := 4) [0, 1, 2, 3, 4] (by decide) (by decide) (List.forall_mem_cons.mpr ⟨of_decide_eq_false c15_6_0, List.forall_mem_cons.mpr ⟨of_decide_eq_false c15_6_1, List.forall_mem_cons.mpr ⟨of_decide_eq_false c15_6_2, List.forall_mem_cons.mpr ⟨of_decide_eq_false c15_6_3, List.forall_mem_cons.mpr ⟨of_decide_eq_false c15_6_4, fun _ h => absurd h List.not_mem_nil⟩⟩⟩⟩⟩))]; rfl) ?_
              refine k_runB (pc' := 97) (loc' := [(0, .ref 40960), (1, .int x1), (2, .int x2)]) (st' := [.int ((-1))]) 1 rfl ?_
              cases hD
              exact k_iret rfl rfl
  · rw [c5_1, cond_false] at hD
    refine k_runB (pc' := 9) (loc' := [(0, .ref 40960), (1, .int x1), (2, .int x2)]) (st' := [.int ((-1))]) 1 rfl ?_
    cases hD
    exact k_iret rfl rfl
/-- SleepWorkModel.orNone(I)I -/
def d_orNone (x0 : Int32) : Option Int32 :=
  cond (g_cnd .ge x0 0)
  (some (x0))
  (some ((-2)))
theorem t_d_orNone {x0 : Int32} {r : Int32} : d_orNone x0 = some r → k_run t lg (d) 203 0 [(0, .int x0)] [] (m_h c B F A J) (some (.int r), m_h c B F A J) := by
  intro hD
  unfold d_orNone at hD
  refine k_runB (pc' := 1) (loc' := [(0, .int x0)]) (st' := [.int x0]) 1 rfl ?_
  refine k_if rfl (fun c1_0 => ?_) (fun c1_0 => ?_)
  · rw [c1_0, cond_true] at hD
    refine k_runB (pc' := 10) (loc' := [(0, .int x0)]) (st' := [.int x0]) 1 rfl ?_
    cases hD
    exact k_iret rfl rfl
  · rw [c1_0, cond_false] at hD
    refine k_runB (pc' := 10) (loc' := [(0, .int x0)]) (st' := [.int ((-2))]) 2 rfl ?_
    cases hD
    exact k_iret rfl rfl
/-- SleepWorkModel.step(III)I -/
def d_step (F : Nat → Int32) (A : Nat → Nat → Int32) (J : Nat → Nat → Int64) (x1 : Int32) (x2 : Int32) (x3 : Int32) : Option Int32 :=
  (d_isStep F A J x1 x2).bind fun v1 =>
  cond (g_cnd .ne v1 0)
  ((d_stepAt F A J x1 x2).bind fun v3 =>
  cond (decide (x3 = 0))
  ((m_ld (A 47) 100 ((6 + (6 * x1)) + x2)).bind fun v5 =>
  some (v5))
  (cond (decide (x3 = 1))
  ((m_ld (A 23) 72 v3).bind fun v6 =>
  some (v6))
  (cond (decide (x3 = 2))
  ((m_ld (A 24) 72 v3).bind fun v7 =>
  some (v7))
  (cond (decide (x3 = 3))
  ((m_ld (A 25) 72 v3).bind fun v8 =>
  some (v8))
  (cond (decide (x3 = 4))
  ((m_ld (A 26) 72 v3).bind fun v9 =>
  some (v9))
  (cond (decide (x3 = 5))
  ((m_ld (A 27) 72 v3).bind fun v10 =>
  (d_orNone v10).bind fun v11 =>
  some (v11))
  (cond (decide (x3 = 6))
  ((m_ld (A 28) 72 v3).bind fun v12 =>
  (d_orNone v12).bind fun v13 =>
  some (v13))
  (some ((-1))))))))))
  (some ((-1)))
theorem t_d_step {x1 : Int32} {x2 : Int32} {x3 : Int32} {r : Int32} : d_step F A J x1 x2 x3 = some r → k_run t lg (d + 3) 204 0 [(0, .ref 40960), (1, .int x1), (2, .int x2), (3, .int x3)] [] (m_h c B F A J) (some (.int r), m_h c B F A J) := by
  intro hD
  unfold d_step at hD
  refine k_runB (pc' := 3) (loc' := [(0, .ref 40960), (1, .int x1), (2, .int x2), (3, .int x3)]) (st' := [.int x2, .int x1, .ref 40960]) 3 rfl ?_
  obtain ⟨v1, hv1, hD⟩ := Option.bind_eq_some_iff.mp hD
  refine k_runC rfl rfl rfl rfl (t_d_isStep (d := d) hv1) ?_
  refine k_if rfl (fun c6_1 => ?_) (fun c6_1 => ?_)
  · rw [c6_1, cond_true] at hD
    refine k_runB (pc' := 14) (loc' := [(0, .ref 40960), (1, .int x1), (2, .int x2), (3, .int x3)]) (st' := [.int x2, .int x1, .ref 40960]) 3 rfl ?_
    obtain ⟨v3, hv3, hD⟩ := Option.bind_eq_some_iff.mp hD
    refine k_runC rfl rfl rfl rfl (t_d_stepAt (d := d + 2) hv3) ?_
    refine k_runB (pc' := 20) (loc' := [(0, .ref 40960), (1, .int x1), (2, .int x2), (3, .int x3), (4, .int v3)]) (st' := [.int x3]) 2 rfl ?_
    cases c20_3_0 : decide (x3 = 0) with
    | true =>
      rw [c20_3_0, cond_true] at hD
      refine k_tab (tgt := 64) rfl (by rw [of_decide_eq_true c20_3_0]; decide) ?_
      refine k_runB (pc' := 77) (loc' := [(0, .ref 40960), (1, .int x1), (2, .int x2), (3, .int x3), (4, .int v3)]) (st' := [.int ((6 + (6 * x1)) + x2), .ref 41007]) 9 rfl ?_
      obtain ⟨v5, hv5, hD⟩ := Option.bind_eq_some_iff.mp hD
      refine k_ldI rfl rfl hv5 ?_
      cases hD
      exact k_iret rfl rfl
    | false =>
      rw [c20_3_0, cond_false] at hD
      cases c20_3_1 : decide (x3 = 1) with
      | true =>
        rw [c20_3_1, cond_true] at hD
        refine k_tab (tgt := 79) rfl (by rw [of_decide_eq_true c20_3_1]; decide) ?_
        refine k_runB (pc' := 85) (loc' := [(0, .ref 40960), (1, .int x1), (2, .int x2), (3, .int x3), (4, .int v3)]) (st' := [.int v3, .ref 40983]) 3 rfl ?_
        obtain ⟨v6, hv6, hD⟩ := Option.bind_eq_some_iff.mp hD
        refine k_ldI rfl rfl hv6 ?_
        cases hD
        exact k_iret rfl rfl
      | false =>
        rw [c20_3_1, cond_false] at hD
        cases c20_3_2 : decide (x3 = 2) with
        | true =>
          rw [c20_3_2, cond_true] at hD
          refine k_tab (tgt := 87) rfl (by rw [of_decide_eq_true c20_3_2]; decide) ?_
          refine k_runB (pc' := 93) (loc' := [(0, .ref 40960), (1, .int x1), (2, .int x2), (3, .int x3), (4, .int v3)]) (st' := [.int v3, .ref 40984]) 3 rfl ?_
          obtain ⟨v7, hv7, hD⟩ := Option.bind_eq_some_iff.mp hD
          refine k_ldI rfl rfl hv7 ?_
          cases hD
          exact k_iret rfl rfl
        | false =>
          rw [c20_3_2, cond_false] at hD
          cases c20_3_3 : decide (x3 = 3) with
          | true =>
            rw [c20_3_3, cond_true] at hD
            refine k_tab (tgt := 95) rfl (by rw [of_decide_eq_true c20_3_3]; decide) ?_
            refine k_runB (pc' := 101) (loc' := [(0, .ref 40960), (1, .int x1), (2, .int x2), (3, .int x3), (4, .int v3)]) (st' := [.int v3, .ref 40985]) 3 rfl ?_
            obtain ⟨v8, hv8, hD⟩ := Option.bind_eq_some_iff.mp hD
            refine k_ldI rfl rfl hv8 ?_
            cases hD
            exact k_iret rfl rfl
          | false =>
            rw [c20_3_3, cond_false] at hD
            cases c20_3_4 : decide (x3 = 4) with
            | true =>
              rw [c20_3_4, cond_true] at hD
              refine k_tab (tgt := 103) rfl (by rw [of_decide_eq_true c20_3_4]; decide) ?_
              refine k_runB (pc' := 109) (loc' := [(0, .ref 40960), (1, .int x1), (2, .int x2), (3, .int x3), (4, .int v3)]) (st' := [.int v3, .ref 40986]) 3 rfl ?_
              obtain ⟨v9, hv9, hD⟩ := Option.bind_eq_some_iff.mp hD
              refine k_ldI rfl rfl hv9 ?_
              cases hD
              exact k_iret rfl rfl
            | false =>
              rw [c20_3_4, cond_false] at hD
              cases c20_3_5 : decide (x3 = 5) with
              | true =>
                rw [c20_3_5, cond_true] at hD
                refine k_tab (tgt := 111) rfl (by rw [of_decide_eq_true c20_3_5]; decide) ?_
                refine k_runB (pc' := 117) (loc' := [(0, .ref 40960), (1, .int x1), (2, .int x2), (3, .int x3), (4, .int v3)]) (st' := [.int v3, .ref 40987]) 3 rfl ?_
                obtain ⟨v10, hv10, hD⟩ := Option.bind_eq_some_iff.mp hD
                refine k_ldI rfl rfl hv10 ?_
                obtain ⟨v11, hv11, hD⟩ := Option.bind_eq_some_iff.mp hD
                refine k_runC rfl rfl rfl rfl (t_d_orNone (d := d + 2) hv11) ?_
                cases hD
                exact k_iret rfl rfl
              | false =>
                rw [c20_3_5, cond_false] at hD
                cases c20_3_6 : decide (x3 = 6) with
                | true =>
                  rw [c20_3_6, cond_true] at hD
                  refine k_tab (tgt := 122) rfl (by rw [of_decide_eq_true c20_3_6]; decide) ?_
                  refine k_runB (pc' := 128) (loc' := [(0, .ref 40960), (1, .int x1), (2, .int x2), (3, .int x3), (4, .int v3)]) (st' := [.int v3, .ref 40988]) 3 rfl ?_
                  obtain ⟨v12, hv12, hD⟩ := Option.bind_eq_some_iff.mp hD
                  refine k_ldI rfl rfl hv12 ?_
                  obtain ⟨v13, hv13, hD⟩ := Option.bind_eq_some_iff.mp hD
                  refine k_runC rfl rfl rfl rfl (t_d_orNone (d := d + 2) hv13) ?_
                  cases hD
                  exact k_iret rfl rfl
                | false =>
                  rw [c20_3_6, cond_false] at hD
                  refine k_tab (tgt := 133) rfl (by rw [if_pos (m_out (lo := 0) (hi := 6) [0, 1, 2, 3, 4, 5, 6] (by decide) (by decide) (List.forall_mem_cons.mpr ⟨of_decide_eq_false c20_3_0, List.forall_mem_cons.mpr ⟨of_decide_eq_false c20_3_1, List.forall_mem_cons.mpr ⟨of_decide_eq_false c20_3_2, List.forall_mem_cons.mpr ⟨of_decide_eq_false c20_3_3, List.forall_mem_cons.mpr ⟨of_decide_eq_false c20_3_4, List.forall_mem_cons.mpr ⟨of_decide_eq_false c20_3_5, List.forall_mem_cons.mpr ⟨of_decide_eq_false c20_3_6, fun _ h => absurd h List.not_mem_nil⟩⟩⟩⟩⟩⟩⟩))]; rfl) ?_
                  refine k_runB (pc' := 134) (loc' := [(0, .ref 40960), (1, .int x1), (2, .int x2), (3, .int x3), (4, .int v3)]) (st' := [.int ((-1))]) 1 rfl ?_
                  cases hD
                  exact k_iret rfl rfl
  · rw [c6_1, cond_false] at hD
    refine k_runB (pc' := 10) (loc' := [(0, .ref 40960), (1, .int x1), (2, .int x2), (3, .int x3)]) (st' := [.int ((-1))]) 1 rfl ?_
    cases hD
    exact k_iret rfl rfl
/-- SleepWorkModel.man(II)I -/
def d_man (F : Nat → Int32) (A : Nat → Nat → Int32) (J : Nat → Nat → Int64) (x1 : Int32) (x2 : Int32) : Option Int32 :=
  (d_isMan F A J x1).bind fun v1 =>
  cond (g_cnd .ne v1 0)
  (cond (decide (x2 = 0))
  ((m_ld (A 30) 12 ((6 * (F 18)) + x1)).bind fun v4 =>
  some (v4))
  (cond (decide (x2 = 1))
  ((m_ld (A 47) 100 (42 + x1)).bind fun v5 =>
  (d_orNone v5).bind fun v6 =>
  some (v6))
  (cond (decide (x2 = 2))
  ((m_ld (A 47) 100 (48 + x1)).bind fun v7 =>
  (d_orNone v7).bind fun v8 =>
  some (v8))
  (cond (decide (x2 = 3))
  ((m_ld (A 47) 100 (54 + x1)).bind fun v9 =>
  some (v9))
  (cond (decide (x2 = 4))
  ((m_ld (A 47) 100 (60 + x1)).bind fun v10 =>
  some (v10))
  (cond (decide (x2 = 5))
  ((m_ld (A 47) 100 (66 + x1)).bind fun v11 =>
  some (v11))
  (some ((-1)))))))))
  (some ((-1)))
theorem t_d_man {x1 : Int32} {x2 : Int32} {r : Int32} : d_man F A J x1 x2 = some r → k_run t lg (d + 2) 205 0 [(0, .ref 40960), (1, .int x1), (2, .int x2)] [] (m_h c B F A J) (some (.int r), m_h c B F A J) := by
  intro hD
  unfold d_man at hD
  refine k_runB (pc' := 2) (loc' := [(0, .ref 40960), (1, .int x1), (2, .int x2)]) (st' := [.int x1, .ref 40960]) 2 rfl ?_
  obtain ⟨v1, hv1, hD⟩ := Option.bind_eq_some_iff.mp hD
  refine k_runC rfl rfl rfl rfl (t_d_isMan (d := d) hv1) ?_
  refine k_if rfl (fun c5_1 => ?_) (fun c5_1 => ?_)
  · rw [c5_1, cond_true] at hD
    refine k_runB (pc' := 11) (loc' := [(0, .ref 40960), (1, .int x1), (2, .int x2)]) (st' := [.int x2]) 1 rfl ?_
    cases c11_2_0 : decide (x2 = 0) with
    | true =>
      rw [c11_2_0, cond_true] at hD
      refine k_tab (tgt := 48) rfl (by rw [of_decide_eq_true c11_2_0]; decide) ?_
      refine k_runB (pc' := 61) (loc' := [(0, .ref 40960), (1, .int x1), (2, .int x2)]) (st' := [.int ((6 * (F 18)) + x1), .ref 40990]) 8 rfl ?_
      obtain ⟨v4, hv4, hD⟩ := Option.bind_eq_some_iff.mp hD
      refine k_ldI rfl rfl hv4 ?_
      cases hD
      exact k_iret rfl rfl
    | false =>
      rw [c11_2_0, cond_false] at hD
      cases c11_2_1 : decide (x2 = 1) with
      | true =>
        rw [c11_2_1, cond_true] at hD
        refine k_tab (tgt := 63) rfl (by rw [of_decide_eq_true c11_2_1]; decide) ?_
        refine k_runB (pc' := 71) (loc' := [(0, .ref 40960), (1, .int x1), (2, .int x2)]) (st' := [.int (42 + x1), .ref 41007]) 5 rfl ?_
        obtain ⟨v5, hv5, hD⟩ := Option.bind_eq_some_iff.mp hD
        refine k_ldI rfl rfl hv5 ?_
        obtain ⟨v6, hv6, hD⟩ := Option.bind_eq_some_iff.mp hD
        refine k_runC rfl rfl rfl rfl (t_d_orNone (d := d + 1) hv6) ?_
        cases hD
        exact k_iret rfl rfl
      | false =>
        rw [c11_2_1, cond_false] at hD
        cases c11_2_2 : decide (x2 = 2) with
        | true =>
          rw [c11_2_2, cond_true] at hD
          refine k_tab (tgt := 76) rfl (by rw [of_decide_eq_true c11_2_2]; decide) ?_
          refine k_runB (pc' := 84) (loc' := [(0, .ref 40960), (1, .int x1), (2, .int x2)]) (st' := [.int (48 + x1), .ref 41007]) 5 rfl ?_
          obtain ⟨v7, hv7, hD⟩ := Option.bind_eq_some_iff.mp hD
          refine k_ldI rfl rfl hv7 ?_
          obtain ⟨v8, hv8, hD⟩ := Option.bind_eq_some_iff.mp hD
          refine k_runC rfl rfl rfl rfl (t_d_orNone (d := d + 1) hv8) ?_
          cases hD
          exact k_iret rfl rfl
        | false =>
          rw [c11_2_2, cond_false] at hD
          cases c11_2_3 : decide (x2 = 3) with
          | true =>
            rw [c11_2_3, cond_true] at hD
            refine k_tab (tgt := 89) rfl (by rw [of_decide_eq_true c11_2_3]; decide) ?_
            refine k_runB (pc' := 97) (loc' := [(0, .ref 40960), (1, .int x1), (2, .int x2)]) (st' := [.int (54 + x1), .ref 41007]) 5 rfl ?_
            obtain ⟨v9, hv9, hD⟩ := Option.bind_eq_some_iff.mp hD
            refine k_ldI rfl rfl hv9 ?_
            cases hD
            exact k_iret rfl rfl
          | false =>
            rw [c11_2_3, cond_false] at hD
            cases c11_2_4 : decide (x2 = 4) with
            | true =>
              rw [c11_2_4, cond_true] at hD
              refine k_tab (tgt := 99) rfl (by rw [of_decide_eq_true c11_2_4]; decide) ?_
              refine k_runB (pc' := 107) (loc' := [(0, .ref 40960), (1, .int x1), (2, .int x2)]) (st' := [.int (60 + x1), .ref 41007]) 5 rfl ?_
              obtain ⟨v10, hv10, hD⟩ := Option.bind_eq_some_iff.mp hD
              refine k_ldI rfl rfl hv10 ?_
              cases hD
              exact k_iret rfl rfl
            | false =>
              rw [c11_2_4, cond_false] at hD
              cases c11_2_5 : decide (x2 = 5) with
              | true =>
                rw [c11_2_5, cond_true] at hD
                refine k_tab (tgt := 109) rfl (by rw [of_decide_eq_true c11_2_5]; decide) ?_
                refine k_runB (pc' := 117) (loc' := [(0, .ref 40960), (1, .int x1), (2, .int x2)]) (st' := [.int (66 + x1), .ref 41007]) 5 rfl ?_
                obtain ⟨v11, hv11, hD⟩ := Option.bind_eq_some_iff.mp hD
                refine k_ldI rfl rfl hv11 ?_
                cases hD
                exact k_iret rfl rfl
              | false =>
                rw [c11_2_5, cond_false] at hD
                refine k_tab (tgt := 119) rfl (by rw [if_pos (m_out (lo := 0) (hi := 5) [0, 1, 2, 3, 4, 5] (by decide) (by decide) (List.forall_mem_cons.mpr ⟨of_decide_eq_false c11_2_0, List.forall_mem_cons.mpr ⟨of_decide_eq_false c11_2_1, List.forall_mem_cons.mpr ⟨of_decide_eq_false c11_2_2, List.forall_mem_cons.mpr ⟨of_decide_eq_false c11_2_3, List.forall_mem_cons.mpr ⟨of_decide_eq_false c11_2_4, List.forall_mem_cons.mpr ⟨of_decide_eq_false c11_2_5, fun _ h => absurd h List.not_mem_nil⟩⟩⟩⟩⟩⟩))]; rfl) ?_
                refine k_runB (pc' := 120) (loc' := [(0, .ref 40960), (1, .int x1), (2, .int x2)]) (st' := [.int ((-1))]) 1 rfl ?_
                cases hD
                exact k_iret rfl rfl
  · rw [c5_1, cond_false] at hD
    refine k_runB (pc' := 9) (loc' := [(0, .ref 40960), (1, .int x1), (2, .int x2)]) (st' := [.int ((-1))]) 1 rfl ?_
    cases hD
    exact k_iret rfl rfl
/-- SleepWorkModel.tool(I)I -/
def d_tool (F : Nat → Int32) (A : Nat → Nat → Int32) (J : Nat → Nat → Int64) (x1 : Int32) : Option Int32 :=
  (d_isTool F A J x1).bind fun v1 =>
  cond (g_cnd .eq v1 0)
  (some ((-1)))
  ((m_ld (A 47) 100 (72 + x1)).bind fun v3 =>
  some (v3))
theorem t_d_tool {x1 : Int32} {r : Int32} : d_tool F A J x1 = some r → k_run t lg (d + 2) 206 0 [(0, .ref 40960), (1, .int x1)] [] (m_h c B F A J) (some (.int r), m_h c B F A J) := by
  intro hD
  unfold d_tool at hD
  refine k_runB (pc' := 2) (loc' := [(0, .ref 40960), (1, .int x1)]) (st' := [.int x1, .ref 40960]) 2 rfl ?_
  obtain ⟨v1, hv1, hD⟩ := Option.bind_eq_some_iff.mp hD
  refine k_runC rfl rfl rfl rfl (t_d_isTool (d := d) hv1) ?_
  refine k_if rfl (fun c5_1 => ?_) (fun c5_1 => ?_)
  · rw [c5_1, cond_true] at hD
    refine k_runB (pc' := 21) (loc' := [(0, .ref 40960), (1, .int x1)]) (st' := [.int ((-1))]) 1 rfl ?_
    cases hD
    exact k_iret rfl rfl
  · rw [c5_1, cond_false] at hD
    refine k_runB (pc' := 16) (loc' := [(0, .ref 40960), (1, .int x1)]) (st' := [.int (72 + x1), .ref 41007]) 5 rfl ?_
    obtain ⟨v3, hv3, hD⟩ := Option.bind_eq_some_iff.mp hD
    refine k_ldI rfl rfl hv3 ?_
    refine k_runB (pc' := 21) (loc' := [(0, .ref 40960), (1, .int x1)]) (st' := [.int v3]) 1 rfl ?_
    cases hD
    exact k_iret rfl rfl
/-- SleepWorkModel.way(II)I -/
def d_way (n : Nat) (F : Nat → Int32) (A : Nat → Nat → Int32) (J : Nat → Nat → Int64) (x1 : Int32) (x2 : Int32) : Option (Int32 × (Nat → Int32) × (Nat → Nat → Int32) × (Nat → Nat → Int64)) :=
  (d_isRoom F A J x1).bind fun v1 =>
  cond (g_cnd .eq v1 0)
  (some ((-1), F, A, J))
  ((d_isRoom F A J x2).bind fun v3 =>
  cond (g_cnd .ne v3 0)
  ((d_takes n F A J).bind fun (_, F6, A7, J8) =>
  (d_fillsWays n F6 A7 J8).bind fun (_, F10, A11, J12) =>
  (m_ld (A11 49) 64 ((8 * x1) + x2)).bind fun v13 =>
  cond (g_cnd .ne v13 1000000)
  ((m_ld (A11 49) 64 ((8 * x1) + x2)).bind fun v15 =>
  some (v15, F10, A11, J12))
  (some ((-2), F10, A11, J12)))
  (some ((-1), F, A, J)))
theorem t_d_way {n : Nat} {x1 : Int32} {x2 : Int32} {r : Int32} {F' : Nat → Int32} {A' : Nat → Nat → Int32} {J' : Nat → Nat → Int64} : d_way n F A J x1 x2 = some (r, F', A', J') → k_run t lg (d + 2) 207 0 [(0, .ref 40960), (1, .int x1), (2, .int x2)] [] (m_h c B F A J) (some (.int r), m_h c B F' A' J') := by
  intro hD
  unfold d_way at hD
  refine k_runB (pc' := 2) (loc' := [(0, .ref 40960), (1, .int x1), (2, .int x2)]) (st' := [.int x1, .ref 40960]) 2 rfl ?_
  obtain ⟨v1, hv1, hD⟩ := Option.bind_eq_some_iff.mp hD
  refine k_runC rfl rfl rfl rfl (t_d_isRoom (d := d) hv1) ?_
  refine k_if rfl (fun c5_1 => ?_) (fun c5_1 => ?_)
  · rw [c5_1, cond_true] at hD
    refine k_runB (pc' := 17) (loc' := [(0, .ref 40960), (1, .int x1), (2, .int x2)]) (st' := [.int ((-1))]) 1 rfl ?_
    cases hD
    exact k_iret rfl rfl
  · rw [c5_1, cond_false] at hD
    refine k_runB (pc' := 10) (loc' := [(0, .ref 40960), (1, .int x1), (2, .int x2)]) (st' := [.int x2, .ref 40960]) 2 rfl ?_
    obtain ⟨v3, hv3, hD⟩ := Option.bind_eq_some_iff.mp hD
    refine k_runC rfl rfl rfl rfl (t_d_isRoom (d := d) hv3) ?_
    refine k_if rfl (fun c13_3 => ?_) (fun c13_3 => ?_)
    · rw [c13_3, cond_true] at hD
      refine k_runB (pc' := 19) (loc' := [(0, .ref 40960), (1, .int x1), (2, .int x2)]) (st' := [.ref 40960]) 1 rfl ?_
      obtain ⟨⟨v5, F6, A7, J8⟩, hv5, hD⟩ := Option.bind_eq_some_iff.mp hD
      dsimp only at hD
      refine k_runC rfl rfl rfl rfl (t_d_takes (d := d + 1) hv5) ?_
      refine k_runB (pc' := 23) (loc' := [(0, .ref 40960), (1, .int x1), (2, .int x2)]) (st' := [.ref 40960]) 1 rfl ?_
      obtain ⟨⟨v9, F10, A11, J12⟩, hv9, hD⟩ := Option.bind_eq_some_iff.mp hD
      dsimp only at hD
      refine k_runC rfl rfl rfl rfl (t_d_fillsWays (d := d + 1) hv9) ?_
      refine k_runB (pc' := 36) (loc' := [(0, .ref 40960), (1, .int x1), (2, .int x2)]) (st' := [.int ((8 * x1) + x2), .ref 41009]) 7 rfl ?_
      obtain ⟨v13, hv13, hD⟩ := Option.bind_eq_some_iff.mp hD
      refine k_ldI rfl rfl hv13 ?_
      refine k_runB (pc' := 40) (loc' := [(0, .ref 40960), (1, .int x1), (2, .int x2)]) (st' := [.int 1000000, .int v13]) 1 rfl ?_
      refine k_ic rfl (fun c40_13 => ?_) (fun c40_13 => ?_)
      · rw [c40_13, cond_true] at hD
        refine k_runB (pc' := 58) (loc' := [(0, .ref 40960), (1, .int x1), (2, .int x2)]) (st' := [.int ((8 * x1) + x2), .ref 41009]) 7 rfl ?_
        obtain ⟨v15, hv15, hD⟩ := Option.bind_eq_some_iff.mp hD
        refine k_ldI rfl rfl hv15 ?_
        cases hD
        exact k_iret rfl rfl
      · rw [c40_13, cond_false] at hD
        refine k_runB (pc' := 59) (loc' := [(0, .ref 40960), (1, .int x1), (2, .int x2)]) (st' := [.int ((-2))]) 2 rfl ?_
        cases hD
        exact k_iret rfl rfl
    · rw [c13_3, cond_false] at hD
      refine k_runB (pc' := 17) (loc' := [(0, .ref 40960), (1, .int x1), (2, .int x2)]) (st' := [.int ((-1))]) 1 rfl ?_
      cases hD
      exact k_iret rfl rfl
def d_isLeft_10 (F : Nat → Int32) (A : Nat → Nat → Int32) (J : Nat → Nat → Int64) (x1 : Int32) (x2 : Int32) : Option Int32 :=
    (d_isStep F A J x1 x2).bind fun v3 =>
    cond (g_cnd .eq v3 0)
    (some (0))
    (some (1))
theorem t_d_isLeft_10  {F : Nat → Int32} {A : Nat → Nat → Int32} {J : Nat → Nat → Int64} {x1 : Int32} {x2 : Int32} {w : Int32} : d_isLeft_10 F A J x1 x2 = some w → k_run t lg (d + 3) 208 10 [(0, .ref 40960), (1, .int x1), (2, .int x2)] [] (m_h c B F A J) (some (.int w), m_h c B F A J) := by
  intro hD
  unfold d_isLeft_10 at hD
  refine k_runB (pc' := 13) (loc' := [(0, .ref 40960), (1, .int x1), (2, .int x2)]) (st' := [.int x2, .int x1, .ref 40960]) 3 rfl ?_
  obtain ⟨v3, hv3, hD⟩ := Option.bind_eq_some_iff.mp hD
  refine k_runC rfl rfl rfl rfl (t_d_isStep (d := d) hv3) ?_
  refine k_if rfl (fun c16_3 => ?_) (fun c16_3 => ?_)
  · rw [c16_3, cond_true] at hD
    refine k_runB (pc' := 24) (loc' := [(0, .ref 40960), (1, .int x1), (2, .int x2)]) (st' := [.int 0]) 1 rfl ?_
    cases hD
    exact k_zret rfl rfl (Or.inl rfl)
  · rw [c16_3, cond_false] at hD
    refine k_runB (pc' := 24) (loc' := [(0, .ref 40960), (1, .int x1), (2, .int x2)]) (st' := [.int 1]) 2 rfl ?_
    cases hD
    exact k_zret rfl rfl (Or.inr rfl)
/-- SleepWorkModel.isLeft(II)Z -/
def d_isLeft (F : Nat → Int32) (A : Nat → Nat → Int32) (J : Nat → Nat → Int64) (x1 : Int32) (x2 : Int32) : Option Int32 :=
  cond (g_cnd .ne x1 ((-1)))
  (d_isLeft_10 F A J x1 x2)
  (cond (g_cnd .eq x2 ((-1)))
  (some (1))
  (d_isLeft_10 F A J x1 x2))
theorem t_d_isLeft {x1 : Int32} {x2 : Int32} {r : Int32} : d_isLeft F A J x1 x2 = some r → k_run t lg (d + 3) 208 0 [(0, .ref 40960), (1, .int x1), (2, .int x2)] [] (m_h c B F A J) (some (.int r), m_h c B F A J) := by
  intro hD
  unfold d_isLeft at hD
  refine k_runB (pc' := 2) (loc' := [(0, .ref 40960), (1, .int x1), (2, .int x2)]) (st' := [.int ((-1)), .int x1]) 2 rfl ?_
  refine k_ic rfl (fun c2_0 => ?_) (fun c2_0 => ?_)
  · rw [c2_0, cond_true] at hD
    refine k_wk [0, 1, 2] (loc' := [(0, .ref 40960), (1, .int x1), (2, .int x2)]) rfl rfl ?_
    exact t_d_isLeft_10  hD
  · rw [c2_0, cond_false] at hD
    refine k_runB (pc' := 7) (loc' := [(0, .ref 40960), (1, .int x1), (2, .int x2)]) (st' := [.int ((-1)), .int x2]) 2 rfl ?_
    refine k_ic rfl (fun c7_1 => ?_) (fun c7_1 => ?_)
    · rw [c7_1, cond_true] at hD
      refine k_runB (pc' := 24) (loc' := [(0, .ref 40960), (1, .int x1), (2, .int x2)]) (st' := [.int 1]) 2 rfl ?_
      cases hD
      exact k_zret rfl rfl (Or.inr rfl)
    · rw [c7_1, cond_false] at hD
      refine k_wk [0, 1, 2] (loc' := [(0, .ref 40960), (1, .int x1), (2, .int x2)]) rfl rfl ?_
      exact t_d_isLeft_10  hD
/-- SleepWorkModel.leave(III)Z -/
def d_leave (F : Nat → Int32) (A : Nat → Nat → Int32) (J : Nat → Nat → Int64) (x1 : Int32) (x2 : Int32) (x3 : Int32) : Option (Int32 × (Nat → Int32) × (Nat → Nat → Int32) × (Nat → Nat → Int64)) :=
  (d_isMan F A J x1).bind fun v1 =>
  cond (g_cnd .eq v1 0)
  (some (0, F, A, J))
  ((d_isLeft F A J x2 x3).bind fun v3 =>
  cond (g_cnd .ne v3 0)
  ((m_st A 47 100 (42 + x1) x2).bind fun A5 =>
  (m_st A5 47 100 (48 + x1) x3).bind fun A6 =>
  some (1, F, A6, J))
  (some (0, F, A, J)))
theorem t_d_leave {x1 : Int32} {x2 : Int32} {x3 : Int32} {r : Int32} {F' : Nat → Int32} {A' : Nat → Nat → Int32} {J' : Nat → Nat → Int64} : d_leave F A J x1 x2 x3 = some (r, F', A', J') → k_run t lg (d + 4) 209 0 [(0, .ref 40960), (1, .int x1), (2, .int x2), (3, .int x3)] [] (m_h c B F A J) (some (.int r), m_h c B F' A' J') := by
  intro hD
  unfold d_leave at hD
  refine k_runB (pc' := 2) (loc' := [(0, .ref 40960), (1, .int x1), (2, .int x2), (3, .int x3)]) (st' := [.int x1, .ref 40960]) 2 rfl ?_
  obtain ⟨v1, hv1, hD⟩ := Option.bind_eq_some_iff.mp hD
  refine k_runC rfl rfl rfl rfl (t_d_isMan (d := d + 2) hv1) ?_
  refine k_if rfl (fun c5_1 => ?_) (fun c5_1 => ?_)
  · rw [c5_1, cond_true] at hD
    refine k_runB (pc' := 18) (loc' := [(0, .ref 40960), (1, .int x1), (2, .int x2), (3, .int x3)]) (st' := [.int 0]) 1 rfl ?_
    cases hD
    exact k_zret rfl rfl (Or.inl rfl)
  · rw [c5_1, cond_false] at hD
    refine k_runB (pc' := 11) (loc' := [(0, .ref 40960), (1, .int x1), (2, .int x2), (3, .int x3)]) (st' := [.int x3, .int x2, .ref 40960]) 3 rfl ?_
    obtain ⟨v3, hv3, hD⟩ := Option.bind_eq_some_iff.mp hD
    refine k_runC rfl rfl rfl rfl (t_d_isLeft (d := d) hv3) ?_
    refine k_if rfl (fun c14_3 => ?_) (fun c14_3 => ?_)
    · rw [c14_3, cond_true] at hD
      refine k_runB (pc' := 28) (loc' := [(0, .ref 40960), (1, .int x1), (2, .int x2), (3, .int x3)]) (st' := [.int x2, .int (42 + x1), .ref 41007]) 6 rfl ?_
      obtain ⟨A5, hA5, hD⟩ := Option.bind_eq_some_iff.mp hD
      refine k_stI 47 rfl rfl (fun _ => rfl) hA5 ?_
      refine k_runB (pc' := 38) (loc' := [(0, .ref 40960), (1, .int x1), (2, .int x2), (3, .int x3)]) (st' := [.int x3, .int (48 + x1), .ref 41007]) 6 rfl ?_
      obtain ⟨A6, hA6, hD⟩ := Option.bind_eq_some_iff.mp hD
      refine k_stI 47 rfl rfl (fun _ => rfl) hA6 ?_
      refine k_runB (pc' := 40) (loc' := [(0, .ref 40960), (1, .int x1), (2, .int x2), (3, .int x3)]) (st' := [.int 1]) 1 rfl ?_
      cases hD
      exact k_zret rfl rfl (Or.inr rfl)
    · rw [c14_3, cond_false] at hD
      refine k_runB (pc' := 18) (loc' := [(0, .ref 40960), (1, .int x1), (2, .int x2), (3, .int x3)]) (st' := [.int 0]) 1 rfl ?_
      cases hD
      exact k_zret rfl rfl (Or.inl rfl)
def d_work_42 : Nat → (Nat → Int32) → (Nat → Nat → Int32) → (Nat → Nat → Int64) → Int32 → Option (Int32 × (Nat → Int32) × (Nat → Nat → Int32) × (Nat → Nat → Int64))
  | 0, _, _, _, _ => none
  | n + 1, F, A, J, x3 => cond (g_cnd .ge x3 100)
    (some (1, F, A, J))
    ((m_ld (A 48) 100 x3).bind fun v16 =>
    (m_st A 47 100 x3 v16).bind fun A17 =>
    (d_work_42 n) F A17 J (x3 + 1))
theorem t_d_work_42 {n : Nat}  {F : Nat → Int32} {A : Nat → Nat → Int32} {J : Nat → Nat → Int64} {x3 : Int32} {w : Int32 × (Nat → Int32) × (Nat → Nat → Int32) × (Nat → Nat → Int64)} : d_work_42 n F A J x3 = some w → k_run t lg (d + 3) 210 42 [(0, .ref 40960), (3, .int x3)] [] (m_h c B F A J) (some (.int w.1), m_h c B w.2.1 w.2.2.1 w.2.2.2) := by
  induction n generalizing F A J x3 w with
  | zero => intro hD; cases hD
  | succ n ih =>
    intro hD
    have hK42 : ∀ (F : Nat → Int32) (A : Nat → Nat → Int32) (J : Nat → Nat → Int64) (x3 : Int32) (w : Int32 × (Nat → Int32) × (Nat → Nat → Int32) × (Nat → Nat → Int64)), d_work_42 n F A J x3 = some w → k_run t lg (d + 3) 210 42 [(0, .ref 40960), (3, .int x3)] [] (m_h c B F A J) (some (.int w.1), m_h c B w.2.1 w.2.2.1 w.2.2.2) := fun _ _ _ _ _ h => ih h
    unfold d_work_42 at hD
    refine k_runB (pc' := 45) (loc' := [(0, .ref 40960), (3, .int x3)]) (st' := [.int 100, .int x3]) 2 rfl ?_
    refine k_ic rfl (fun c45_14 => ?_) (fun c45_14 => ?_)
    · rw [c45_14, cond_true] at hD
      refine k_runB (pc' := 67) (loc' := [(0, .ref 40960), (3, .int x3)]) (st' := [.int 1]) 1 rfl ?_
      cases hD
      exact k_zret rfl rfl (Or.inr rfl)
    · rw [c45_14, cond_false] at hD
      refine k_runB (pc' := 58) (loc' := [(0, .ref 40960), (3, .int x3)]) (st' := [.int x3, .ref 41008, .int x3, .ref 41007]) 6 rfl ?_
      obtain ⟨v16, hv16, hD⟩ := Option.bind_eq_some_iff.mp hD
      refine k_ldI rfl rfl hv16 ?_
      obtain ⟨A17, hA17, hD⟩ := Option.bind_eq_some_iff.mp hD
      refine k_stI 47 rfl rfl (fun _ => rfl) hA17 ?_
      refine k_runB (pc' := 42) (loc' := [(0, .ref 40960), (3, .int (x3 + 1))]) (st' := []) 2 rfl ?_
      refine k_wk [0, 3] (loc' := [(0, .ref 40960), (3, .int (x3 + 1))]) rfl rfl ?_
      exact hK42 _ _ _ _ _ hD
/-- SleepWorkModel.work(II)Z -/
def d_work (n : Nat) (F : Nat → Int32) (A : Nat → Nat → Int32) (J : Nat → Nat → Int64) (x1 : Int32) (x2 : Int32) : Option (Int32 × (Nat → Int32) × (Nat → Nat → Int32) × (Nat → Nat → Int64)) :=
  (d_isStep F A J x1 x2).bind fun v1 =>
  cond (g_cnd .eq v1 0)
  (some (0, F, A, J))
  ((m_ld (A 47) 100 x1).bind fun v3 =>
  cond (g_cnd .ne v3 0)
  ((d_takes n F A J).bind fun (_, F6, A7, J8) =>
  (m_ld (A7 48) 100 x1).bind fun v9 =>
  (m_st A7 48 100 x1 (v9 - 1)).bind fun A10 =>
  (d_does F6 A10 J8 x1 x2).bind fun (_, F12, A13, J14) =>
  d_work_42 n F12 A13 J14 0)
  (some (0, F, A, J)))
theorem t_d_work {n : Nat} {x1 : Int32} {x2 : Int32} {r : Int32} {F' : Nat → Int32} {A' : Nat → Nat → Int32} {J' : Nat → Nat → Int64} : d_work n F A J x1 x2 = some (r, F', A', J') → k_run t lg (d + 3) 210 0 [(0, .ref 40960), (1, .int x1), (2, .int x2)] [] (m_h c B F A J) (some (.int r), m_h c B F' A' J') := by
  intro hD
  unfold d_work at hD
  refine k_runB (pc' := 3) (loc' := [(0, .ref 40960), (1, .int x1), (2, .int x2)]) (st' := [.int x2, .int x1, .ref 40960]) 3 rfl ?_
  obtain ⟨v1, hv1, hD⟩ := Option.bind_eq_some_iff.mp hD
  refine k_runC rfl rfl rfl rfl (t_d_isStep (d := d) hv1) ?_
  refine k_if rfl (fun c6_1 => ?_) (fun c6_1 => ?_)
  · rw [c6_1, cond_true] at hD
    refine k_runB (pc' := 19) (loc' := [(0, .ref 40960), (1, .int x1), (2, .int x2)]) (st' := [.int 0]) 1 rfl ?_
    cases hD
    exact k_zret rfl rfl (Or.inl rfl)
  · rw [c6_1, cond_false] at hD
    refine k_runB (pc' := 14) (loc' := [(0, .ref 40960), (1, .int x1), (2, .int x2)]) (st' := [.int x1, .ref 41007]) 3 rfl ?_
    obtain ⟨v3, hv3, hD⟩ := Option.bind_eq_some_iff.mp hD
    refine k_ldI rfl rfl hv3 ?_
    refine k_if rfl (fun c15_3 => ?_) (fun c15_3 => ?_)
    · rw [c15_3, cond_true] at hD
      refine k_runB (pc' := 21) (loc' := [(0, .ref 40960), (1, .int x1), (2, .int x2)]) (st' := [.ref 40960]) 1 rfl ?_
      obtain ⟨⟨v5, F6, A7, J8⟩, hv5, hD⟩ := Option.bind_eq_some_iff.mp hD
      dsimp only at hD
      refine k_runC rfl rfl rfl rfl (t_d_takes (d := d + 2) hv5) ?_
      refine k_runB (pc' := 30) (loc' := [(0, .ref 40960), (1, .int x1), (2, .int x2)]) (st' := [.int x1, .ref 41008, .int x1, .ref 41008]) 4 rfl ?_
      obtain ⟨v9, hv9, hD⟩ := Option.bind_eq_some_iff.mp hD
      refine k_ldI rfl rfl hv9 ?_
      refine k_runB (pc' := 33) (loc' := [(0, .ref 40960), (1, .int x1), (2, .int x2)]) (st' := [.int (v9 - 1), .int x1, .ref 41008]) 2 rfl ?_
      obtain ⟨A10, hA10, hD⟩ := Option.bind_eq_some_iff.mp hD
      refine k_stI 48 rfl rfl (fun _ => rfl) hA10 ?_
      refine k_runB (pc' := 37) (loc' := [(0, .ref 40960), (1, .int x1), (2, .int x2)]) (st' := [.int x2, .int x1, .ref 40960]) 3 rfl ?_
      obtain ⟨⟨v11, F12, A13, J14⟩, hv11, hD⟩ := Option.bind_eq_some_iff.mp hD
      dsimp only at hD
      refine k_runC rfl rfl rfl rfl (t_d_does (d := d + 1) hv11) ?_
      refine k_runB (pc' := 42) (loc' := [(0, .ref 40960), (1, .int x1), (2, .int x2), (3, .int 0)]) (st' := []) 2 rfl ?_
      refine k_wk [0, 3] (loc' := [(0, .ref 40960), (3, .int 0)]) rfl rfl ?_
      exact t_d_work_42  hD
    · rw [c15_3, cond_false] at hD
      refine k_runB (pc' := 19) (loc' := [(0, .ref 40960), (1, .int x1), (2, .int x2)]) (st' := [.int 0]) 1 rfl ?_
      cases hD
      exact k_zret rfl rfl (Or.inl rfl)
/-- SleepWorkModel.lay(II)Z -/
def d_lay (F : Nat → Int32) (A : Nat → Nat → Int32) (J : Nat → Nat → Int64) (x1 : Int32) (x2 : Int32) : Option (Int32 × (Nat → Int32) × (Nat → Nat → Int32) × (Nat → Nat → Int64)) :=
  (d_isTool F A J x1).bind fun v1 =>
  cond (g_cnd .eq v1 0)
  (some (0, F, A, J))
  ((d_isRoom F A J x2).bind fun v3 =>
  cond (g_cnd .ne v3 0)
  ((m_st A 47 100 (72 + x1) x2).bind fun A5 =>
  some (1, F, A5, J))
  (some (0, F, A, J)))
theorem t_d_lay {x1 : Int32} {x2 : Int32} {r : Int32} {F' : Nat → Int32} {A' : Nat → Nat → Int32} {J' : Nat → Nat → Int64} : d_lay F A J x1 x2 = some (r, F', A', J') → k_run t lg (d + 2) 211 0 [(0, .ref 40960), (1, .int x1), (2, .int x2)] [] (m_h c B F A J) (some (.int r), m_h c B F' A' J') := by
  intro hD
  unfold d_lay at hD
  refine k_runB (pc' := 2) (loc' := [(0, .ref 40960), (1, .int x1), (2, .int x2)]) (st' := [.int x1, .ref 40960]) 2 rfl ?_
  obtain ⟨v1, hv1, hD⟩ := Option.bind_eq_some_iff.mp hD
  refine k_runC rfl rfl rfl rfl (t_d_isTool (d := d) hv1) ?_
  refine k_if rfl (fun c5_1 => ?_) (fun c5_1 => ?_)
  · rw [c5_1, cond_true] at hD
    refine k_runB (pc' := 17) (loc' := [(0, .ref 40960), (1, .int x1), (2, .int x2)]) (st' := [.int 0]) 1 rfl ?_
    cases hD
    exact k_zret rfl rfl (Or.inl rfl)
  · rw [c5_1, cond_false] at hD
    refine k_runB (pc' := 10) (loc' := [(0, .ref 40960), (1, .int x1), (2, .int x2)]) (st' := [.int x2, .ref 40960]) 2 rfl ?_
    obtain ⟨v3, hv3, hD⟩ := Option.bind_eq_some_iff.mp hD
    refine k_runC rfl rfl rfl rfl (t_d_isRoom (d := d) hv3) ?_
    refine k_if rfl (fun c13_3 => ?_) (fun c13_3 => ?_)
    · rw [c13_3, cond_true] at hD
      refine k_runB (pc' := 27) (loc' := [(0, .ref 40960), (1, .int x1), (2, .int x2)]) (st' := [.int x2, .int (72 + x1), .ref 41007]) 6 rfl ?_
      obtain ⟨A5, hA5, hD⟩ := Option.bind_eq_some_iff.mp hD
      refine k_stI 47 rfl rfl (fun _ => rfl) hA5 ?_
      refine k_runB (pc' := 29) (loc' := [(0, .ref 40960), (1, .int x1), (2, .int x2)]) (st' := [.int 1]) 1 rfl ?_
      cases hD
      exact k_zret rfl rfl (Or.inr rfl)
    · rw [c13_3, cond_false] at hD
      refine k_runB (pc' := 17) (loc' := [(0, .ref 40960), (1, .int x1), (2, .int x2)]) (st' := [.int 0]) 1 rfl ?_
      cases hD
      exact k_zret rfl rfl (Or.inl rfl)
/-- SleepWorkModel.give(II)Z -/
def d_give (F : Nat → Int32) (A : Nat → Nat → Int32) (J : Nat → Nat → Int64) (x1 : Int32) (x2 : Int32) : Option (Int32 × (Nat → Int32) × (Nat → Nat → Int32) × (Nat → Nat → Int64)) :=
  (d_isTool F A J x1).bind fun v1 =>
  cond (g_cnd .eq v1 0)
  (some (0, F, A, J))
  ((d_isMan F A J x2).bind fun v3 =>
  cond (g_cnd .ne v3 0)
  ((m_st A 47 100 (72 + x1) (100 + x2)).bind fun A5 =>
  some (1, F, A5, J))
  (some (0, F, A, J)))
theorem t_d_give {x1 : Int32} {x2 : Int32} {r : Int32} {F' : Nat → Int32} {A' : Nat → Nat → Int32} {J' : Nat → Nat → Int64} : d_give F A J x1 x2 = some (r, F', A', J') → k_run t lg (d + 2) 212 0 [(0, .ref 40960), (1, .int x1), (2, .int x2)] [] (m_h c B F A J) (some (.int r), m_h c B F' A' J') := by
  intro hD
  unfold d_give at hD
  refine k_runB (pc' := 2) (loc' := [(0, .ref 40960), (1, .int x1), (2, .int x2)]) (st' := [.int x1, .ref 40960]) 2 rfl ?_
  obtain ⟨v1, hv1, hD⟩ := Option.bind_eq_some_iff.mp hD
  refine k_runC rfl rfl rfl rfl (t_d_isTool (d := d) hv1) ?_
  refine k_if rfl (fun c5_1 => ?_) (fun c5_1 => ?_)
  · rw [c5_1, cond_true] at hD
    refine k_runB (pc' := 17) (loc' := [(0, .ref 40960), (1, .int x1), (2, .int x2)]) (st' := [.int 0]) 1 rfl ?_
    cases hD
    exact k_zret rfl rfl (Or.inl rfl)
  · rw [c5_1, cond_false] at hD
    refine k_runB (pc' := 10) (loc' := [(0, .ref 40960), (1, .int x1), (2, .int x2)]) (st' := [.int x2, .ref 40960]) 2 rfl ?_
    obtain ⟨v3, hv3, hD⟩ := Option.bind_eq_some_iff.mp hD
    refine k_runC rfl rfl rfl rfl (t_d_isMan (d := d) hv3) ?_
    refine k_if rfl (fun c13_3 => ?_) (fun c13_3 => ?_)
    · rw [c13_3, cond_true] at hD
      refine k_runB (pc' := 30) (loc' := [(0, .ref 40960), (1, .int x1), (2, .int x2)]) (st' := [.int (100 + x2), .int (72 + x1), .ref 41007]) 8 rfl ?_
      obtain ⟨A5, hA5, hD⟩ := Option.bind_eq_some_iff.mp hD
      refine k_stI 47 rfl rfl (fun _ => rfl) hA5 ?_
      refine k_runB (pc' := 32) (loc' := [(0, .ref 40960), (1, .int x1), (2, .int x2)]) (st' := [.int 1]) 1 rfl ?_
      cases hD
      exact k_zret rfl rfl (Or.inr rfl)
    · rw [c13_3, cond_false] at hD
      refine k_runB (pc' := 17) (loc' := [(0, .ref 40960), (1, .int x1), (2, .int x2)]) (st' := [.int 0]) 1 rfl ?_
      cases hD
      exact k_zret rfl rfl (Or.inl rfl)
def d_bar_58 (F : Nat → Int32) (A : Nat → Nat → Int32) (J : Nat → Nat → Int64) (s1 : Int32) (s2 : Int32) : Option (Int32 × (Nat → Int32) × (Nat → Nat → Int32) × (Nat → Nat → Int64)) :=
    (m_st A 47 100 s1 s2).bind fun A7 =>
    some (1, F, A7, J)
theorem t_d_bar_58  {F : Nat → Int32} {A : Nat → Nat → Int32} {J : Nat → Nat → Int64} {s1 : Int32} {s2 : Int32} {w : Int32 × (Nat → Int32) × (Nat → Nat → Int32) × (Nat → Nat → Int64)} : d_bar_58 F A J s1 s2 = some w → k_run t lg (d + 1) 213 58 [(0, .ref 40960)] [.int s2, .int s1, .ref 41007] (m_h c B F A J) (some (.int w.1), m_h c B w.2.1 w.2.2.1 w.2.2.2) := by
  intro hD
  unfold d_bar_58 at hD
  obtain ⟨A7, hA7, hD⟩ := Option.bind_eq_some_iff.mp hD
  refine k_stI 47 rfl rfl (fun _ => rfl) hA7 ?_
  refine k_runB (pc' := 60) (loc' := [(0, .ref 40960)]) (st' := [.int 1]) 1 rfl ?_
  cases hD
  exact k_zret rfl rfl (Or.inr rfl)
/-- SleepWorkModel.bar(IZ)Z -/
def d_bar (F : Nat → Int32) (A : Nat → Nat → Int32) (J : Nat → Nat → Int64) (x1 : Int32) (x2 : Int32) : Option (Int32 × (Nat → Int32) × (Nat → Nat → Int32) × (Nat → Nat → Int64)) :=
  (m_ld (A 12) 2 (F 18)).bind fun v1 =>
  (d_in x1 0 (v1 - 1)).bind fun v2 =>
  cond (g_cnd .ne v2 0)
  (cond (g_cnd .eq x2 0)
  ((m_ld (A 47) 100 78).bind fun v5 =>
  d_bar_58 F A J 78 (v5 &&& ((1 <<< (x1 &&& 31)) ^^^ ((-1)))))
  ((m_ld (A 47) 100 78).bind fun v6 =>
  d_bar_58 F A J 78 (v6 ||| (1 <<< (x1 &&& 31)))))
  (some (0, F, A, J))
theorem t_d_bar {x1 : Int32} {x2 : Int32} {r : Int32} {F' : Nat → Int32} {A' : Nat → Nat → Int32} {J' : Nat → Nat → Int64} : d_bar F A J x1 x2 = some (r, F', A', J') → k_run t lg (d + 1) 213 0 [(0, .ref 40960), (1, .int x1), (2, .int x2)] [] (m_h c B F A J) (some (.int r), m_h c B F' A' J') := by
  intro hD
  unfold d_bar at hD
  refine k_runB (pc' := 10) (loc' := [(0, .ref 40960), (1, .int x1), (2, .int x2)]) (st' := [.int (F 18), .ref 40972, .int 0, .int x1]) 6 rfl ?_
  obtain ⟨v1, hv1, hD⟩ := Option.bind_eq_some_iff.mp hD
  refine k_ldI rfl rfl hv1 ?_
  refine k_runB (pc' := 13) (loc' := [(0, .ref 40960), (1, .int x1), (2, .int x2)]) (st' := [.int (v1 - 1), .int 0, .int x1]) 2 rfl ?_
  obtain ⟨v2, hv2, hD⟩ := Option.bind_eq_some_iff.mp hD
  refine k_runC rfl rfl rfl rfl (t_d_in (d := d) hv2) ?_
  refine k_if rfl (fun c16_2 => ?_) (fun c16_2 => ?_)
  · rw [c16_2, cond_true] at hD
    refine k_runB (pc' := 28) (loc' := [(0, .ref 40960), (1, .int x1), (2, .int x2)]) (st' := [.int x2, .int 78, .ref 41007]) 4 rfl ?_
    refine k_if rfl (fun c28_3 => ?_) (fun c28_3 => ?_)
    · rw [c28_3, cond_true] at hD
      refine k_runB (pc' := 51) (loc' := [(0, .ref 40960), (1, .int x1), (2, .int x2)]) (st' := [.int 78, .ref 41007, .int 78, .ref 41007]) 3 rfl ?_
      obtain ⟨v5, hv5, hD⟩ := Option.bind_eq_some_iff.mp hD
      refine k_ldI rfl rfl hv5 ?_
      refine k_runB (pc' := 58) (loc' := [(0, .ref 40960), (1, .int x1), (2, .int x2)]) (st' := [.int (v5 &&& ((1 <<< (x1 &&& 31)) ^^^ ((-1)))), .int 78, .ref 41007]) 6 rfl ?_
      refine k_wk [0] (loc' := [(0, .ref 40960)]) rfl rfl ?_
      exact t_d_bar_58  hD
    · rw [c28_3, cond_false] at hD
      refine k_runB (pc' := 37) (loc' := [(0, .ref 40960), (1, .int x1), (2, .int x2)]) (st' := [.int 78, .ref 41007, .int 78, .ref 41007]) 3 rfl ?_
      obtain ⟨v6, hv6, hD⟩ := Option.bind_eq_some_iff.mp hD
      refine k_ldI rfl rfl hv6 ?_
      refine k_runB (pc' := 58) (loc' := [(0, .ref 40960), (1, .int x1), (2, .int x2)]) (st' := [.int (v6 ||| (1 <<< (x1 &&& 31))), .int 78, .ref 41007]) 5 rfl ?_
      refine k_wk [0] (loc' := [(0, .ref 40960)]) rfl rfl ?_
      exact t_d_bar_58  hD
  · rw [c16_2, cond_false] at hD
    refine k_runB (pc' := 20) (loc' := [(0, .ref 40960), (1, .int x1), (2, .int x2)]) (st' := [.int 0]) 1 rfl ?_
    cases hD
    exact k_zret rfl rfl (Or.inl rfl)
def d_night_104 : Nat → (Nat → Int32) → (Nat → Nat → Int32) → (Nat → Nat → Int64) → Int32 → Int32 → Option (Int32 × (Nat → Int32) × (Nat → Nat → Int32) × (Nat → Nat → Int64))
  | 0, _, _, _, _, _ => none
  | n + 1, F, A, J, x1, x2 => cond (g_cnd .ge x2 100)
    (some (x1, F, A, J))
    ((m_ld (A 48) 100 x2).bind fun v19 =>
    (m_st A 47 100 x2 v19).bind fun A20 =>
    (d_night_104 n) F A20 J x1 (x2 + 1))
theorem t_d_night_104 (ht : ∀ k, t.1 12 k = k_ty 12 k) {n : Nat}  {F : Nat → Int32} {A : Nat → Nat → Int32} {J : Nat → Nat → Int64} {x1 : Int32} {x2 : Int32} {w : Int32 × (Nat → Int32) × (Nat → Nat → Int32) × (Nat → Nat → Int64)} : d_night_104 n F A J x1 x2 = some w → k_run t lg (d + 5) 214 104 [(0, .ref 40960), (1, .int x1), (2, .int x2)] [] (m_h c B F A J) (some (.int w.1), m_h c B w.2.1 w.2.2.1 w.2.2.2) := by
  induction n generalizing F A J x1 x2 w with
  | zero => intro hD; cases hD
  | succ n ih =>
    intro hD
    have hK104 : ∀ (F : Nat → Int32) (A : Nat → Nat → Int32) (J : Nat → Nat → Int64) (x1 : Int32) (x2 : Int32) (w : Int32 × (Nat → Int32) × (Nat → Nat → Int32) × (Nat → Nat → Int64)), d_night_104 n F A J x1 x2 = some w → k_run t lg (d + 5) 214 104 [(0, .ref 40960), (1, .int x1), (2, .int x2)] [] (m_h c B F A J) (some (.int w.1), m_h c B w.2.1 w.2.2.1 w.2.2.2) := fun _ _ _ _ _ _ h => ih h
    unfold d_night_104 at hD
    refine k_runB (pc' := 107) (loc' := [(0, .ref 40960), (1, .int x1), (2, .int x2)]) (st' := [.int 100, .int x2]) 2 rfl ?_
    refine k_ic rfl (fun c107_17 => ?_) (fun c107_17 => ?_)
    · rw [c107_17, cond_true] at hD
      refine k_runB (pc' := 129) (loc' := [(0, .ref 40960), (1, .int x1), (2, .int x2)]) (st' := [.int x1]) 1 rfl ?_
      cases hD
      exact k_iret rfl rfl
    · rw [c107_17, cond_false] at hD
      refine k_runB (pc' := 120) (loc' := [(0, .ref 40960), (1, .int x1), (2, .int x2)]) (st' := [.int x2, .ref 41008, .int x2, .ref 41007]) 6 rfl ?_
      obtain ⟨v19, hv19, hD⟩ := Option.bind_eq_some_iff.mp hD
      refine k_ldI rfl rfl hv19 ?_
      obtain ⟨A20, hA20, hD⟩ := Option.bind_eq_some_iff.mp hD
      refine k_stI 47 rfl rfl (fun _ => rfl) hA20 ?_
      refine k_runB (pc' := 104) (loc' := [(0, .ref 40960), (1, .int x1), (2, .int (x2 + 1))]) (st' := []) 2 rfl ?_
      refine k_wk [0, 1, 2] (loc' := [(0, .ref 40960), (1, .int x1), (2, .int (x2 + 1))]) rfl rfl ?_
      exact hK104 _ _ _ _ _ _ hD
def d_night_51 : Nat → (Nat → Int32) → (Nat → Nat → Int32) → (Nat → Nat → Int64) → Int32 → Option (Int32 × (Nat → Int32) × (Nat → Nat → Int32) × (Nat → Nat → Int64))
  | 0, _, _, _, _ => none
  | n + 1, F, A, J, x1 => cond (g_cnd .ge x1 100)
    ((m_pf F 74 ((F 74) + 1)).bind fun F7 =>
    (d_takes n F7 A J).bind fun (_, F9, A10, J11) =>
    (d_wholeNight n F9 A10 J11).bind fun (v12, F13, A14, J15) =>
    d_night_104 n F13 A14 J15 v12 0)
    ((m_ld (A 47) 100 x1).bind fun v16 =>
    (m_st A 57 2000 ((100 * (F 74)) + x1) v16).bind fun A17 =>
    (d_night_51 n) F A17 J (x1 + 1))
theorem t_d_night_51 (ht : ∀ k, t.1 12 k = k_ty 12 k) {n : Nat}  {F : Nat → Int32} {A : Nat → Nat → Int32} {J : Nat → Nat → Int64} {x1 : Int32} {w : Int32 × (Nat → Int32) × (Nat → Nat → Int32) × (Nat → Nat → Int64)} : d_night_51 n F A J x1 = some w → k_run t lg (d + 5) 214 51 [(0, .ref 40960), (1, .int x1)] [] (m_h c B F A J) (some (.int w.1), m_h c B w.2.1 w.2.2.1 w.2.2.2) := by
  induction n generalizing F A J x1 w with
  | zero => intro hD; cases hD
  | succ n ih =>
    intro hD
    have hK51 : ∀ (F : Nat → Int32) (A : Nat → Nat → Int32) (J : Nat → Nat → Int64) (x1 : Int32) (w : Int32 × (Nat → Int32) × (Nat → Nat → Int32) × (Nat → Nat → Int64)), d_night_51 n F A J x1 = some w → k_run t lg (d + 5) 214 51 [(0, .ref 40960), (1, .int x1)] [] (m_h c B F A J) (some (.int w.1), m_h c B w.2.1 w.2.2.1 w.2.2.2) := fun _ _ _ _ _ h => ih h
    unfold d_night_51 at hD
    refine k_runB (pc' := 54) (loc' := [(0, .ref 40960), (1, .int x1)]) (st' := [.int 100, .int x1]) 2 rfl ?_
    refine k_ic rfl (fun c54_5 => ?_) (fun c54_5 => ?_)
    · rw [c54_5, cond_true] at hD
      refine k_runB (pc' := 90) (loc' := [(0, .ref 40960), (1, .int x1)]) (st' := [.int ((F 74) + 1), .ref 40960]) 5 rfl ?_
      obtain ⟨F7, hF7, hD⟩ := Option.bind_eq_some_iff.mp hD
      refine k_ptI rfl (ht 74) rfl rfl hF7 ?_
      refine k_runB (pc' := 94) (loc' := [(0, .ref 40960), (1, .int x1)]) (st' := [.ref 40960]) 1 rfl ?_
      obtain ⟨⟨v8, F9, A10, J11⟩, hv8, hD⟩ := Option.bind_eq_some_iff.mp hD
      dsimp only at hD
      refine k_runC rfl rfl rfl rfl (t_d_takes (d := d + 4) hv8) ?_
      refine k_runB (pc' := 98) (loc' := [(0, .ref 40960), (1, .int x1)]) (st' := [.ref 40960]) 1 rfl ?_
      obtain ⟨⟨v12, F13, A14, J15⟩, hv12, hD⟩ := Option.bind_eq_some_iff.mp hD
      dsimp only at hD
      refine k_runC rfl rfl rfl rfl (t_d_wholeNight (d := d) ht hv12) ?_
      refine k_runB (pc' := 104) (loc' := [(0, .ref 40960), (1, .int v12), (2, .int 0)]) (st' := []) 3 rfl ?_
      refine k_wk [0, 1, 2] (loc' := [(0, .ref 40960), (1, .int v12), (2, .int 0)]) rfl rfl ?_
      exact t_d_night_104 ht  hD
    · rw [c54_5, cond_false] at hD
      refine k_runB (pc' := 75) (loc' := [(0, .ref 40960), (1, .int x1)]) (st' := [.int x1, .ref 41007, .int ((100 * (F 74)) + x1), .ref 41017]) 11 rfl ?_
      obtain ⟨v16, hv16, hD⟩ := Option.bind_eq_some_iff.mp hD
      refine k_ldI rfl rfl hv16 ?_
      obtain ⟨A17, hA17, hD⟩ := Option.bind_eq_some_iff.mp hD
      refine k_stI 57 rfl rfl (fun _ => rfl) hA17 ?_
      refine k_runB (pc' := 51) (loc' := [(0, .ref 40960), (1, .int (x1 + 1))]) (st' := []) 2 rfl ?_
      refine k_wk [0, 1] (loc' := [(0, .ref 40960), (1, .int (x1 + 1))]) rfl rfl ?_
      exact hK51 _ _ _ _ _ hD
def d_night_49 (n : Nat) (F : Nat → Int32) (A : Nat → Nat → Int32) (J : Nat → Nat → Int64) : Option (Int32 × (Nat → Int32) × (Nat → Nat → Int32) × (Nat → Nat → Int64)) :=
    d_night_51 n F A J 0
theorem t_d_night_49 (ht : ∀ k, t.1 12 k = k_ty 12 k) {n : Nat}  {F : Nat → Int32} {A : Nat → Nat → Int32} {J : Nat → Nat → Int64}  {w : Int32 × (Nat → Int32) × (Nat → Nat → Int32) × (Nat → Nat → Int64)} : d_night_49 n F A J = some w → k_run t lg (d + 5) 214 49 [(0, .ref 40960)] [] (m_h c B F A J) (some (.int w.1), m_h c B w.2.1 w.2.2.1 w.2.2.2) := by
  intro hD
  unfold d_night_49 at hD
  refine k_runB (pc' := 51) (loc' := [(0, .ref 40960), (1, .int 0)]) (st' := []) 2 rfl ?_
  refine k_wk [0, 1] (loc' := [(0, .ref 40960), (1, .int 0)]) rfl rfl ?_
  exact t_d_night_51 ht  hD
def d_night_11 : Nat → (Nat → Int32) → (Nat → Nat → Int32) → (Nat → Nat → Int64) → Int32 → Option (Int32 × (Nat → Int32) × (Nat → Nat → Int32) × (Nat → Nat → Int64))
  | 0, _, _, _, _ => none
  | n + 1, F, A, J, x1 => cond (g_cnd .ge x1 1900)
    ((m_pf F 74 ((F 74) - 1)).bind fun F3 =>
    d_night_51 n F3 A J 0)
    ((m_ld (A 57) 2000 (x1 + 100)).bind fun v4 =>
    (m_st A 57 2000 x1 v4).bind fun A5 =>
    (d_night_11 n) F A5 J (x1 + 1))
theorem t_d_night_11 (ht : ∀ k, t.1 12 k = k_ty 12 k) {n : Nat}  {F : Nat → Int32} {A : Nat → Nat → Int32} {J : Nat → Nat → Int64} {x1 : Int32} {w : Int32 × (Nat → Int32) × (Nat → Nat → Int32) × (Nat → Nat → Int64)} : d_night_11 n F A J x1 = some w → k_run t lg (d + 5) 214 11 [(0, .ref 40960), (1, .int x1)] [] (m_h c B F A J) (some (.int w.1), m_h c B w.2.1 w.2.2.1 w.2.2.2) := by
  induction n generalizing F A J x1 w with
  | zero => intro hD; cases hD
  | succ n ih =>
    intro hD
    have hK11 : ∀ (F : Nat → Int32) (A : Nat → Nat → Int32) (J : Nat → Nat → Int64) (x1 : Int32) (w : Int32 × (Nat → Int32) × (Nat → Nat → Int32) × (Nat → Nat → Int64)), d_night_11 n F A J x1 = some w → k_run t lg (d + 5) 214 11 [(0, .ref 40960), (1, .int x1)] [] (m_h c B F A J) (some (.int w.1), m_h c B w.2.1 w.2.2.1 w.2.2.2) := fun _ _ _ _ _ h => ih h
    unfold d_night_11 at hD
    refine k_runB (pc' := 15) (loc' := [(0, .ref 40960), (1, .int x1)]) (st' := [.int 1900, .int x1]) 2 rfl ?_
    refine k_ic rfl (fun c15_1 => ?_) (fun c15_1 => ?_)
    · rw [c15_1, cond_true] at hD
      refine k_runB (pc' := 46) (loc' := [(0, .ref 40960), (1, .int x1)]) (st' := [.int ((F 74) - 1), .ref 40960]) 5 rfl ?_
      obtain ⟨F3, hF3, hD⟩ := Option.bind_eq_some_iff.mp hD
      refine k_ptI rfl (ht 74) rfl rfl hF3 ?_
      refine k_runB (pc' := 51) (loc' := [(0, .ref 40960), (1, .int 0)]) (st' := []) 2 rfl ?_
      refine k_wk [0, 1] (loc' := [(0, .ref 40960), (1, .int 0)]) rfl rfl ?_
      exact t_d_night_51 ht  hD
    · rw [c15_1, cond_false] at hD
      refine k_runB (pc' := 31) (loc' := [(0, .ref 40960), (1, .int x1)]) (st' := [.int (x1 + 100), .ref 41017, .int x1, .ref 41017]) 8 rfl ?_
      obtain ⟨v4, hv4, hD⟩ := Option.bind_eq_some_iff.mp hD
      refine k_ldI rfl rfl hv4 ?_
      obtain ⟨A5, hA5, hD⟩ := Option.bind_eq_some_iff.mp hD
      refine k_stI 57 rfl rfl (fun _ => rfl) hA5 ?_
      refine k_runB (pc' := 11) (loc' := [(0, .ref 40960), (1, .int (x1 + 1))]) (st' := []) 2 rfl ?_
      refine k_wk [0, 1] (loc' := [(0, .ref 40960), (1, .int (x1 + 1))]) rfl rfl ?_
      exact hK11 _ _ _ _ _ hD
/-- SleepWorkModel.night()I -/
def d_night (n : Nat) (F : Nat → Int32) (A : Nat → Nat → Int32) (J : Nat → Nat → Int64) : Option (Int32 × (Nat → Int32) × (Nat → Nat → Int32) × (Nat → Nat → Int64)) :=
  cond (g_cnd .ne (F 74) 20)
  (d_night_49 n F A J)
  (d_night_11 n F A J 0)
theorem t_d_night (ht : ∀ k, t.1 12 k = k_ty 12 k) {n : Nat} {r : Int32} {F' : Nat → Int32} {A' : Nat → Nat → Int32} {J' : Nat → Nat → Int64} : d_night n F A J = some (r, F', A', J') → k_run t lg (d + 5) 214 0 [(0, .ref 40960)] [] (m_h c B F A J) (some (.int r), m_h c B F' A' J') := by
  intro hD
  unfold d_night at hD
  refine k_runB (pc' := 6) (loc' := [(0, .ref 40960)]) (st' := [.int 20, .int (F 74)]) 3 rfl ?_
  refine k_ic rfl (fun c6_0 => ?_) (fun c6_0 => ?_)
  · rw [c6_0, cond_true] at hD
    refine k_wk [0] (loc' := [(0, .ref 40960)]) rfl rfl ?_
    exact t_d_night_49 ht  hD
  · rw [c6_0, cond_false] at hD
    refine k_runB (pc' := 11) (loc' := [(0, .ref 40960), (1, .int 0)]) (st' := []) 2 rfl ?_
    refine k_wk [0, 1] (loc' := [(0, .ref 40960), (1, .int 0)]) rfl rfl ?_
    exact t_d_night_11 ht  hD
def d_undo_21 : Nat → (Nat → Int32) → (Nat → Nat → Int32) → (Nat → Nat → Int64) → Int32 → Option (Int32 × (Nat → Int32) × (Nat → Nat → Int32) × (Nat → Nat → Int64))
  | 0, _, _, _, _ => none
  | n + 1, F, A, J, x1 => cond (g_cnd .ge x1 100)
    (some (1, F, A, J))
    ((m_ld (A 57) 2000 ((100 * (F 74)) + x1)).bind fun v4 =>
    (m_st A 47 100 x1 v4).bind fun A5 =>
    (d_undo_21 n) F A5 J (x1 + 1))
theorem t_d_undo_21 (ht : ∀ k, t.1 12 k = k_ty 12 k) {n : Nat}  {F : Nat → Int32} {A : Nat → Nat → Int32} {J : Nat → Nat → Int64} {x1 : Int32} {w : Int32 × (Nat → Int32) × (Nat → Nat → Int32) × (Nat → Nat → Int64)} : d_undo_21 n F A J x1 = some w → k_run t lg (d) 215 21 [(0, .ref 40960), (1, .int x1)] [] (m_h c B F A J) (some (.int w.1), m_h c B w.2.1 w.2.2.1 w.2.2.2) := by
  induction n generalizing F A J x1 w with
  | zero => intro hD; cases hD
  | succ n ih =>
    intro hD
    have hK21 : ∀ (F : Nat → Int32) (A : Nat → Nat → Int32) (J : Nat → Nat → Int64) (x1 : Int32) (w : Int32 × (Nat → Int32) × (Nat → Nat → Int32) × (Nat → Nat → Int64)), d_undo_21 n F A J x1 = some w → k_run t lg (d) 215 21 [(0, .ref 40960), (1, .int x1)] [] (m_h c B F A J) (some (.int w.1), m_h c B w.2.1 w.2.2.1 w.2.2.2) := fun _ _ _ _ _ h => ih h
    unfold d_undo_21 at hD
    refine k_runB (pc' := 24) (loc' := [(0, .ref 40960), (1, .int x1)]) (st' := [.int 100, .int x1]) 2 rfl ?_
    refine k_ic rfl (fun c24_2 => ?_) (fun c24_2 => ?_)
    · rw [c24_2, cond_true] at hD
      refine k_runB (pc' := 54) (loc' := [(0, .ref 40960), (1, .int x1)]) (st' := [.int 1]) 1 rfl ?_
      cases hD
      exact k_zret rfl rfl (Or.inr rfl)
    · rw [c24_2, cond_false] at hD
      refine k_runB (pc' := 45) (loc' := [(0, .ref 40960), (1, .int x1)]) (st' := [.int ((100 * (F 74)) + x1), .ref 41017, .int x1, .ref 41007]) 11 rfl ?_
      obtain ⟨v4, hv4, hD⟩ := Option.bind_eq_some_iff.mp hD
      refine k_ldI rfl rfl hv4 ?_
      obtain ⟨A5, hA5, hD⟩ := Option.bind_eq_some_iff.mp hD
      refine k_stI 47 rfl rfl (fun _ => rfl) hA5 ?_
      refine k_runB (pc' := 21) (loc' := [(0, .ref 40960), (1, .int (x1 + 1))]) (st' := []) 2 rfl ?_
      refine k_wk [0, 1] (loc' := [(0, .ref 40960), (1, .int (x1 + 1))]) rfl rfl ?_
      exact hK21 _ _ _ _ _ hD
/-- SleepWorkModel.undo()Z -/
def d_undo (n : Nat) (F : Nat → Int32) (A : Nat → Nat → Int32) (J : Nat → Nat → Int64) : Option (Int32 × (Nat → Int32) × (Nat → Nat → Int32) × (Nat → Nat → Int64)) :=
  cond (g_cnd .ne (F 74) 0)
  ((m_pf F 74 ((F 74) - 1)).bind fun F2 =>
  d_undo_21 n F2 A J 0)
  (some (0, F, A, J))
theorem t_d_undo (ht : ∀ k, t.1 12 k = k_ty 12 k) {n : Nat} {r : Int32} {F' : Nat → Int32} {A' : Nat → Nat → Int32} {J' : Nat → Nat → Int64} : d_undo n F A J = some (r, F', A', J') → k_run t lg (d) 215 0 [(0, .ref 40960)] [] (m_h c B F A J) (some (.int r), m_h c B F' A' J') := by
  intro hD
  unfold d_undo at hD
  refine k_runB (pc' := 4) (loc' := [(0, .ref 40960)]) (st' := [.int (F 74)]) 2 rfl ?_
  refine k_if rfl (fun c4_0 => ?_) (fun c4_0 => ?_)
  · rw [c4_0, cond_true] at hD
    refine k_runB (pc' := 16) (loc' := [(0, .ref 40960)]) (st' := [.int ((F 74) - 1), .ref 40960]) 5 rfl ?_
    obtain ⟨F2, hF2, hD⟩ := Option.bind_eq_some_iff.mp hD
    refine k_ptI rfl (ht 74) rfl rfl hF2 ?_
    refine k_runB (pc' := 21) (loc' := [(0, .ref 40960), (1, .int 0)]) (st' := []) 2 rfl ?_
    refine k_wk [0, 1] (loc' := [(0, .ref 40960), (1, .int 0)]) rfl rfl ?_
    exact t_d_undo_21 ht  hD
  · rw [c4_0, cond_false] at hD
    refine k_runB (pc' := 8) (loc' := [(0, .ref 40960)]) (st' := [.int 0]) 1 rfl ?_
    cases hD
    exact k_zret rfl rfl (Or.inl rfl)
/-- SleepWorkModel.gain()I -/
def d_gain (n : Nat) (F : Nat → Int32) (A : Nat → Nat → Int32) (J : Nat → Nat → Int64) : Option (Int32 × (Nat → Int32) × (Nat → Nat → Int32) × (Nat → Nat → Int64)) :=
  (d_takes n F A J).bind fun (_, F2, A3, J4) =>
  (d_wholeNight n F2 A3 J4).bind fun (v5, F6, A7, J8) =>
  some (v5, F6, A7, J8)
theorem t_d_gain (ht : ∀ k, t.1 12 k = k_ty 12 k) {n : Nat} {r : Int32} {F' : Nat → Int32} {A' : Nat → Nat → Int32} {J' : Nat → Nat → Int64} : d_gain n F A J = some (r, F', A', J') → k_run t lg (d + 5) 216 0 [(0, .ref 40960)] [] (m_h c B F A J) (some (.int r), m_h c B F' A' J') := by
  intro hD
  unfold d_gain at hD
  refine k_runB (pc' := 1) (loc' := [(0, .ref 40960)]) (st' := [.ref 40960]) 1 rfl ?_
  obtain ⟨⟨v1, F2, A3, J4⟩, hv1, hD⟩ := Option.bind_eq_some_iff.mp hD
  dsimp only at hD
  refine k_runC rfl rfl rfl rfl (t_d_takes (d := d + 4) hv1) ?_
  refine k_runB (pc' := 5) (loc' := [(0, .ref 40960)]) (st' := [.ref 40960]) 1 rfl ?_
  obtain ⟨⟨v5, F6, A7, J8⟩, hv5, hD⟩ := Option.bind_eq_some_iff.mp hD
  dsimp only at hD
  refine k_runC rfl rfl rfl rfl (t_d_wholeNight (d := d) ht hv5) ?_
  cases hD
  exact k_iret rfl rfl
def d_leaves_96 (n : Nat) (F : Nat → Int32) (A : Nat → Nat → Int32) (J : Nat → Nat → Int64) (s1 : Int32) (s2 : Int32) : Option (Int32 × (Nat → Int32) × (Nat → Nat → Int32) × (Nat → Nat → Int64)) :=
    (m_st A 48 100 s1 s2).bind fun A13 =>
    some (1, F, A13, J)
theorem t_d_leaves_96 {n : Nat}  {F : Nat → Int32} {A : Nat → Nat → Int32} {J : Nat → Nat → Int64} {s1 : Int32} {s2 : Int32} {w : Int32 × (Nat → Int32) × (Nat → Nat → Int32) × (Nat → Nat → Int64)} : d_leaves_96 n F A J s1 s2 = some w → k_run t lg (d + 1) 217 96 [(0, .ref 40960)] [.int s2, .int s1, .ref 41008] (m_h c B F A J) (some (.int w.1), m_h c B w.2.1 w.2.2.1 w.2.2.2) := by
  intro hD
  unfold d_leaves_96 at hD
  obtain ⟨A13, hA13, hD⟩ := Option.bind_eq_some_iff.mp hD
  refine k_stI 48 rfl rfl (fun _ => rfl) hA13 ?_
  refine k_runB (pc' := 98) (loc' := [(0, .ref 40960)]) (st' := [.int 1]) 1 rfl ?_
  cases hD
  exact k_zret rfl rfl (Or.inr rfl)
def d_leaves_78 (n : Nat) (F : Nat → Int32) (A : Nat → Nat → Int32) (J : Nat → Nat → Int64) (x1 : Int32) (x3 : Int32) (s1 : Int32) (s2 : Int32) : Option (Int32 × (Nat → Int32) × (Nat → Nat → Int32) × (Nat → Nat → Int64)) :=
    (m_st A 48 100 s1 s2).bind fun A11 =>
    cond (g_cnd .ge x3 0)
    (d_leaves_96 n F A11 J (48 + x1) x3)
    (d_leaves_96 n F A11 J (48 + x1) ((-1)))
theorem t_d_leaves_78 {n : Nat}  {F : Nat → Int32} {A : Nat → Nat → Int32} {J : Nat → Nat → Int64} {x1 : Int32} {x3 : Int32} {s1 : Int32} {s2 : Int32} {w : Int32 × (Nat → Int32) × (Nat → Nat → Int32) × (Nat → Nat → Int64)} : d_leaves_78 n F A J x1 x3 s1 s2 = some w → k_run t lg (d + 1) 217 78 [(0, .ref 40960), (1, .int x1), (3, .int x3)] [.int s2, .int s1, .ref 41008] (m_h c B F A J) (some (.int w.1), m_h c B w.2.1 w.2.2.1 w.2.2.2) := by
  intro hD
  unfold d_leaves_78 at hD
  obtain ⟨A11, hA11, hD⟩ := Option.bind_eq_some_iff.mp hD
  refine k_stI 48 rfl rfl (fun _ => rfl) hA11 ?_
  refine k_runB (pc' := 88) (loc' := [(0, .ref 40960), (1, .int x1), (3, .int x3)]) (st' := [.int x3, .int (48 + x1), .ref 41008]) 6 rfl ?_
  refine k_if rfl (fun c88_11 => ?_) (fun c88_11 => ?_)
  · rw [c88_11, cond_true] at hD
    refine k_runB (pc' := 96) (loc' := [(0, .ref 40960), (1, .int x1), (3, .int x3)]) (st' := [.int x3, .int (48 + x1), .ref 41008]) 1 rfl ?_
    refine k_wk [0] (loc' := [(0, .ref 40960)]) rfl rfl ?_
    exact t_d_leaves_96  hD
  · rw [c88_11, cond_false] at hD
    refine k_runB (pc' := 96) (loc' := [(0, .ref 40960), (1, .int x1), (3, .int x3)]) (st' := [.int ((-1)), .int (48 + x1), .ref 41008]) 2 rfl ?_
    refine k_wk [0] (loc' := [(0, .ref 40960)]) rfl rfl ?_
    exact t_d_leaves_96  hD
def d_leaves_60 (n : Nat) (F : Nat → Int32) (A : Nat → Nat → Int32) (J : Nat → Nat → Int64) (x1 : Int32) (x3 : Int32) (x4 : Int32) : Option (Int32 × (Nat → Int32) × (Nat → Nat → Int32) × (Nat → Nat → Int64)) :=
    cond (g_cnd .ge x3 0)
    (d_leaves_78 n F A J x1 x3 (42 + x1) x4)
    (d_leaves_78 n F A J x1 x3 (42 + x1) ((-1)))
theorem t_d_leaves_60 {n : Nat}  {F : Nat → Int32} {A : Nat → Nat → Int32} {J : Nat → Nat → Int64} {x1 : Int32} {x3 : Int32} {x4 : Int32} {w : Int32 × (Nat → Int32) × (Nat → Nat → Int32) × (Nat → Nat → Int64)} : d_leaves_60 n F A J x1 x3 x4 = some w → k_run t lg (d + 1) 217 60 [(0, .ref 40960), (1, .int x1), (3, .int x3), (4, .int x4)] [] (m_h c B F A J) (some (.int w.1), m_h c B w.2.1 w.2.2.1 w.2.2.2) := by
  intro hD
  unfold d_leaves_60 at hD
  refine k_runB (pc' := 69) (loc' := [(0, .ref 40960), (1, .int x1), (3, .int x3), (4, .int x4)]) (st' := [.int x3, .int (42 + x1), .ref 41008]) 6 rfl ?_
  refine k_if rfl (fun c69_9 => ?_) (fun c69_9 => ?_)
  · rw [c69_9, cond_true] at hD
    refine k_runB (pc' := 78) (loc' := [(0, .ref 40960), (1, .int x1), (3, .int x3), (4, .int x4)]) (st' := [.int x4, .int (42 + x1), .ref 41008]) 1 rfl ?_
    refine k_wk [0, 1, 3] (loc' := [(0, .ref 40960), (1, .int x1), (3, .int x3)]) rfl rfl ?_
    exact t_d_leaves_78  hD
  · rw [c69_9, cond_false] at hD
    refine k_runB (pc' := 78) (loc' := [(0, .ref 40960), (1, .int x1), (3, .int x3), (4, .int x4)]) (st' := [.int ((-1)), .int (42 + x1), .ref 41008]) 2 rfl ?_
    refine k_wk [0, 1, 3] (loc' := [(0, .ref 40960), (1, .int x1), (3, .int x3)]) rfl rfl ?_
    exact t_d_leaves_78  hD
def d_leaves_45 (n : Nat) (F : Nat → Int32) (A : Nat → Nat → Int32) (J : Nat → Nat → Int64) (x1 : Int32) (x3 : Int32) (x4 : Int32) : Option (Int32 × (Nat → Int32) × (Nat → Nat → Int32) × (Nat → Nat → Int64)) :=
    (d_tasksNow F A J).bind fun v7 =>
    cond (g_cnd .ne x4 v7)
    (d_leaves_60 n F A J x1 x3 x4)
    (cond (g_cnd .lt x3 0)
    (d_leaves_60 n F A J x1 x3 x4)
    (some (0, F, A, J)))
theorem t_d_leaves_45 {n : Nat}  {F : Nat → Int32} {A : Nat → Nat → Int32} {J : Nat → Nat → Int64} {x1 : Int32} {x3 : Int32} {x4 : Int32} {w : Int32 × (Nat → Int32) × (Nat → Nat → Int32) × (Nat → Nat → Int64)} : d_leaves_45 n F A J x1 x3 x4 = some w → k_run t lg (d + 1) 217 45 [(0, .ref 40960), (1, .int x1), (3, .int x3), (4, .int x4)] [] (m_h c B F A J) (some (.int w.1), m_h c B w.2.1 w.2.2.1 w.2.2.2) := by
  intro hD
  unfold d_leaves_45 at hD
  refine k_runB (pc' := 48) (loc' := [(0, .ref 40960), (1, .int x1), (3, .int x3), (4, .int x4)]) (st' := [.ref 40960, .int x4]) 2 rfl ?_
  obtain ⟨v7, hv7, hD⟩ := Option.bind_eq_some_iff.mp hD
  refine k_runC rfl rfl rfl rfl (t_d_tasksNow (d := d) hv7) ?_
  refine k_ic rfl (fun c51_7 => ?_) (fun c51_7 => ?_)
  · rw [c51_7, cond_true] at hD
    refine k_wk [0, 1, 3, 4] (loc' := [(0, .ref 40960), (1, .int x1), (3, .int x3), (4, .int x4)]) rfl rfl ?_
    exact t_d_leaves_60  hD
  · rw [c51_7, cond_false] at hD
    refine k_runB (pc' := 55) (loc' := [(0, .ref 40960), (1, .int x1), (3, .int x3), (4, .int x4)]) (st' := [.int x3]) 1 rfl ?_
    refine k_if rfl (fun c55_8 => ?_) (fun c55_8 => ?_)
    · rw [c55_8, cond_true] at hD
      refine k_wk [0, 1, 3, 4] (loc' := [(0, .ref 40960), (1, .int x1), (3, .int x3), (4, .int x4)]) rfl rfl ?_
      exact t_d_leaves_60  hD
    · rw [c55_8, cond_false] at hD
      refine k_runB (pc' := 59) (loc' := [(0, .ref 40960), (1, .int x1), (3, .int x3), (4, .int x4)]) (st' := [.int 0]) 1 rfl ?_
      cases hD
      exact k_zret rfl rfl (Or.inl rfl)
def d_leaves_7 : Nat → (Nat → Int32) → (Nat → Nat → Int32) → (Nat → Nat → Int64) → Int32 → Int32 → Int32 → Option (Int32 × (Nat → Int32) × (Nat → Nat → Int32) × (Nat → Nat → Int64))
  | 0, _, _, _, _, _, _ => none
  | n + 1, F, A, J, x1, x3, x4 => cond (g_cnd .lt x3 0)
    (d_leaves_45 n F A J x1 x3 x4)
    ((d_tasksNow F A J).bind fun v2 =>
    cond (g_cnd .ge x4 v2)
    (d_leaves_45 n F A J x1 x3 x4)
    ((d_stepsOf F A J x4).bind fun v4 =>
    cond (g_cnd .lt x3 v4)
    (d_leaves_45 n F A J x1 x3 x4)
    ((d_stepsOf F A J x4).bind fun v6 =>
    (d_leaves_7 n) F A J x1 (x3 - v6) (x4 + 1))))
theorem t_d_leaves_7 {n : Nat}  {F : Nat → Int32} {A : Nat → Nat → Int32} {J : Nat → Nat → Int64} {x1 : Int32} {x3 : Int32} {x4 : Int32} {w : Int32 × (Nat → Int32) × (Nat → Nat → Int32) × (Nat → Nat → Int64)} : d_leaves_7 n F A J x1 x3 x4 = some w → k_run t lg (d + 1) 217 7 [(0, .ref 40960), (1, .int x1), (3, .int x3), (4, .int x4)] [] (m_h c B F A J) (some (.int w.1), m_h c B w.2.1 w.2.2.1 w.2.2.2) := by
  induction n generalizing F A J x1 x3 x4 w with
  | zero => intro hD; cases hD
  | succ n ih =>
    intro hD
    have hK7 : ∀ (F : Nat → Int32) (A : Nat → Nat → Int32) (J : Nat → Nat → Int64) (x1 : Int32) (x3 : Int32) (x4 : Int32) (w : Int32 × (Nat → Int32) × (Nat → Nat → Int32) × (Nat → Nat → Int64)), d_leaves_7 n F A J x1 x3 x4 = some w → k_run t lg (d + 1) 217 7 [(0, .ref 40960), (1, .int x1), (3, .int x3), (4, .int x4)] [] (m_h c B F A J) (some (.int w.1), m_h c B w.2.1 w.2.2.1 w.2.2.2) := fun _ _ _ _ _ _ _ h => ih h
    unfold d_leaves_7 at hD
    refine k_runB (pc' := 8) (loc' := [(0, .ref 40960), (1, .int x1), (3, .int x3), (4, .int x4)]) (st' := [.int x3]) 1 rfl ?_
    refine k_if rfl (fun c8_0 => ?_) (fun c8_0 => ?_)
    · rw [c8_0, cond_true] at hD
      refine k_wk [0, 1, 3, 4] (loc' := [(0, .ref 40960), (1, .int x1), (3, .int x3), (4, .int x4)]) rfl rfl ?_
      exact t_d_leaves_45  hD
    · rw [c8_0, cond_false] at hD
      refine k_runB (pc' := 14) (loc' := [(0, .ref 40960), (1, .int x1), (3, .int x3), (4, .int x4)]) (st' := [.ref 40960, .int x4]) 2 rfl ?_
      obtain ⟨v2, hv2, hD⟩ := Option.bind_eq_some_iff.mp hD
      refine k_runC rfl rfl rfl rfl (t_d_tasksNow (d := d) hv2) ?_
      refine k_ic rfl (fun c17_2 => ?_) (fun c17_2 => ?_)
      · rw [c17_2, cond_true] at hD
        refine k_wk [0, 1, 3, 4] (loc' := [(0, .ref 40960), (1, .int x1), (3, .int x3), (4, .int x4)]) rfl rfl ?_
        exact t_d_leaves_45  hD
      · rw [c17_2, cond_false] at hD
        refine k_runB (pc' := 24) (loc' := [(0, .ref 40960), (1, .int x1), (3, .int x3), (4, .int x4)]) (st' := [.int x4, .ref 40960, .int x3]) 3 rfl ?_
        obtain ⟨v4, hv4, hD⟩ := Option.bind_eq_some_iff.mp hD
        refine k_runC rfl rfl rfl rfl (t_d_stepsOf (d := d) hv4) ?_
        refine k_ic rfl (fun c27_4 => ?_) (fun c27_4 => ?_)
        · rw [c27_4, cond_true] at hD
          refine k_wk [0, 1, 3, 4] (loc' := [(0, .ref 40960), (1, .int x1), (3, .int x3), (4, .int x4)]) rfl rfl ?_
          exact t_d_leaves_45  hD
        · rw [c27_4, cond_false] at hD
          refine k_runB (pc' := 34) (loc' := [(0, .ref 40960), (1, .int x1), (3, .int x3), (4, .int x4)]) (st' := [.int x4, .ref 40960, .int x3]) 3 rfl ?_
          obtain ⟨v6, hv6, hD⟩ := Option.bind_eq_some_iff.mp hD
          refine k_runC rfl rfl rfl rfl (t_d_stepsOf (d := d) hv6) ?_
          refine k_runB (pc' := 7) (loc' := [(0, .ref 40960), (1, .int x1), (3, .int (x3 - v6)), (4, .int (x4 + 1))]) (st' := []) 4 rfl ?_
          refine k_wk [0, 1, 3, 4] (loc' := [(0, .ref 40960), (1, .int x1), (3, .int (x3 - v6)), (4, .int (x4 + 1))]) rfl rfl ?_
          exact hK7 _ _ _ _ _ _ _ hD
/-- SleepWorkModel.leaves(II)Z -/
def d_leaves (n : Nat) (F : Nat → Int32) (A : Nat → Nat → Int32) (J : Nat → Nat → Int64) (x1 : Int32) (x2 : Int32) : Option (Int32 × (Nat → Int32) × (Nat → Nat → Int32) × (Nat → Nat → Int64)) :=
  d_leaves_7 n F A J x1 (x2 - 1) 0
theorem t_d_leaves {n : Nat} {x1 : Int32} {x2 : Int32} {r : Int32} {F' : Nat → Int32} {A' : Nat → Nat → Int32} {J' : Nat → Nat → Int64} : d_leaves n F A J x1 x2 = some (r, F', A', J') → k_run t lg (d + 1) 217 0 [(0, .ref 40960), (1, .int x1), (2, .int x2)] [] (m_h c B F A J) (some (.int r), m_h c B F' A' J') := by
  intro hD
  unfold d_leaves at hD
  refine k_runB (pc' := 7) (loc' := [(0, .ref 40960), (1, .int x1), (2, .int x2), (3, .int (x2 - 1)), (4, .int 0)]) (st' := []) 6 rfl ?_
  refine k_wk [0, 1, 3, 4] (loc' := [(0, .ref 40960), (1, .int x1), (3, .int (x2 - 1)), (4, .int 0)]) rfl rfl ?_
  exact t_d_leaves_7  hD
end MD
