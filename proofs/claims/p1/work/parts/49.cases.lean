/-! the cases of the law, each with its first call on a fresh object; the law's run (printed by wip/zdo.py) -/
theorem v_gt2 {x : Int32} (h : g_cnd .lt x 3 = false) : g_cnd .gt x 2 = true := by
  have h1 := Int32.le_iff_toInt_le.mp (Int32.not_lt.mp (of_decide_eq_false h))
  refine decide_eq_true ?_
  rw [Int32.lt_iff_toInt_lt]
  have h4 : (2 : Int32).toInt = 2 := by decide
  have h5 : (3 : Int32).toInt = 3 := by decide
  omega
theorem o_hold012 {x : Int32} (h : x = 0 ∨ x = 1 ∨ x = 2) : ∃ w, e_SleepWork_hold x_P x_F x_A x_J x = some (1, w) := by
  have hx := h_hold
  rw [Bool.and_eq_true, Bool.and_eq_true] at hx
  rcases h with h | h | h
  · rw [h]; exact x_is_ex hx.1.1
  · rw [h]; exact x_is_ex hx.1.2
  · rw [h]; exact x_is_ex hx.2
theorem p_hold012 {x : Int32} (h : x = 0 ∨ x = 1 ∨ x = 2) : ∃ w, d_hold 600 y_F y_A y_J x = some (1, w) := by
  have hx := h_dhold
  rw [Bool.and_eq_true, Bool.and_eq_true] at hx
  rcases h with h | h | h
  · rw [h]; exact x_is_ex hx.1.1
  · rw [h]; exact x_is_ex hx.1.2
  · rw [h]; exact x_is_ex hx.2
theorem o_count (x : Int32) : ∃ v, e_SleepWork_count 600 x_P x_F x_A x_J x = some v ∧ ∃ F2 A2 J2, d_count 600 y_F y_A y_J x = some (v, F2, A2, J2) := by
  have hc : ∀ q, q ∈ h_cv → x = q.1 → ∃ v, e_SleepWork_count 600 x_P x_F x_A x_J x = some v ∧ ∃ F2 A2 J2, d_count 600 y_F y_A y_J x = some (v, F2, A2, J2) := by
    intro q hq hx
    have h := List.all_eq_true.mp h_count q hq
    rw [Bool.and_eq_true] at h
    rw [hx]
    obtain ⟨⟨F2, A2, J2⟩, hD⟩ := x_is_ex h.2
    exact ⟨q.2, x_iv_eq h.1, F2, A2, J2, hD⟩
  by_cases h0 : x = 0
  · exact hc (0, 0) (by decide) h0
  by_cases h1 : x = 1
  · exact hc (1, 0) (by decide) h1
  by_cases h2 : x = 2
  · exact hc (2, 0) (by decide) h2
  by_cases h3 : x = 3
  · exact hc (3, 0) (by decide) h3
  by_cases h4 : x = 4
  · exact hc (4, 0) (by decide) h4
  by_cases h5 : x = 5
  · exact hc (5, 480) (by decide) h5
  by_cases h6 : x = 6
  · exact hc (6, 0) (by decide) h6
  by_cases h7 : x = 7
  · exact hc (7, 0) (by decide) h7
  by_cases h8 : x = 8
  · exact hc (8, 0) (by decide) h8
  by_cases h9 : x = 9
  · exact hc (9, 0) (by decide) h9
  by_cases h10 : x = 10
  · exact hc (10, 0) (by decide) h10
  by_cases h11 : x = 11
  · exact hc (11, 0) (by decide) h11
  by_cases h12 : x = 12
  · exact hc (12, 0) (by decide) h12
  refine ⟨-1, ?_, y_F, y_A, y_J, ?_⟩
  · unfold e_SleepWork_count
    simp only [decide_eq_false h0, decide_eq_false h1, decide_eq_false h2, decide_eq_false h3, decide_eq_false h4, decide_eq_false h5, decide_eq_false h6, decide_eq_false h7, decide_eq_false h8, decide_eq_false h9, decide_eq_false h10, decide_eq_false h11, decide_eq_false h12, cond_false]
  · unfold d_count
    simp only [decide_eq_false h0, decide_eq_false h1, decide_eq_false h2, decide_eq_false h3, decide_eq_false h4, decide_eq_false h5, decide_eq_false h6, decide_eq_false h7, decide_eq_false h8, decide_eq_false h9, decide_eq_false h10, decide_eq_false h11, decide_eq_false h12, cond_false]
theorem z_m {c : Nat × Nat} {f : Nat → List gE} {F : Nat → Int32} {A : Nat → Nat → Int32} {J : Nat → Nat → Int64} (h : f 40 = m_cells F A J) : ((c, f) : gH) = m_h c f F A J := by
  refine Prod.ext rfl ?_
  funext r
  show f r = va_up f 40 (m_cells F A J) r
  unfold va_up
  by_cases hr : r = 40
  · rw [if_pos hr, hr]; exact h
  · rw [if_neg hr]
theorem z_view {c : Nat × Nat} {P : Nat → Nat → Nat} {F : Nat → Nat → Int32} {A : Nat → Nat → Nat → Int32} {J : Nat → Nat → Nat → Int64} : c_h c x_f P F A J = m_h c (c_f x_f P F A J) y_F y_A y_J := z_m (show x_f 40 = _ from x_40)
theorem z_C {t : gT} {lg : Nat → Nat} {d M pc : Nat} {loc : List (Nat × Value)} {st : List Value} {h : gH} {v : Option Value} {c : Nat × Nat} {P : Nat → Nat → Nat} {F : Nat → Nat → Int32} {A : Nat → Nat → Nat → Int32} {J : Nat → Nat → Nat → Int64} (hr : k_run t lg d M pc loc st h (v, c_h c x_f P F A J)) : k_run t lg d M pc loc st h (v, m_h c (c_f x_f P F A J) y_F y_A y_J) := by
  rw [← z_view]
  exact hr
theorem z_Cb {t : gT} {lg : Nat → Nat} {d M pc : Nat} {loc : List (Nat × Value)} {st : List Value} {h : gH} {v : Option Value} {c : Nat × Nat} {f : Nat → List gE} {J : Nat → Nat → Int64} (h40 : f 40 = m_cells y_F y_A J) (hr : k_run t lg d M pc loc st h (v, (c, f))) : k_run t lg d M pc loc st h (v, m_h c f y_F y_A J) := by
  rw [← z_m h40]
  exact hr
theorem z_g0 {c : Nat × Nat} {B : Nat → List gE} {P : Nat → Nat → Nat} {F : Nat → Nat → Int32} {A : Nat → Nat → Nat → Int32} {J : Nat → Nat → Nat → Int64} : ∃ fs, g_get (c_h c B P F A J) 0 = some (.inr (11, fs)) := ⟨_, c_get (r := 0) (o := 0) (K := 0) rfl (by decide)⟩
theorem z_g1 {c : Nat × Nat} {f : Nat → List gE} {F : Nat → Int32} {A : Nat → Nat → Int32} {J : Nat → Nat → Int64} : ∃ fs, g_get (m_h c f F A J) 40960 = some (.inr (12, fs)) := ⟨_, rfl⟩
def z_goal (xs : Nat → Int32) (pc : Nat) : Prop := ∃ h', k_run (k_t xs 6) c_lg 41 271 pc [(0, .float 0), (1, .ref 0), (2, .ref 40960), (3, .int 0)] [] (c_h (340, 20126) x_f x_P x_F x_A x_J) (some (.int 1), h') ∧ h'.1.1 ≤ 600000 ∧ h'.1.2 ≤ 7302250
section ZD
variable {xs : Nat → Int32}
set_option maxRecDepth 100000 in
theorem z_do0 : z_goal xs 176 := by
  obtain ⟨⟨P1, F1, A1, J1⟩, hE⟩ := x_map (o_feed0 (A := x_A) (J := x_J) (x1 := xs 1) (x2 := xs 2) (x3 := xs 3) (x4 := xs 4) (x5 := xs 5))
  obtain ⟨⟨F2, A2, J2⟩, hD⟩ := x_map (p_feed0 (J := y_J) (x1 := xs 1) (x2 := xs 2) (x3 := xs 3) (x4 := xs 4) (x5 := xs 5))
  have C := t_e_SleepWork_feed (t := k_t xs 6) (lg := c_lg) (d := 39) (c := (340, 20126)) (B := x_f) (fun _ _ => rfl) hE
  obtain ⟨fs0, g0⟩ := z_g0 (c := (340, 20126)) (B := x_f) (P := x_P) (F := x_F) (A := x_A) (J := x_J)
  have C := z_C (P := P1) (F := F1) (A := A1) (J := J1) C
  have M := t_d_feed (t := k_t xs 6) (lg := c_lg) (d := 39) (c := (340, 20126)) (B := c_f x_f P1 F1 A1 J1) (fun _ => rfl) hD
  obtain ⟨fs1, g1⟩ := z_g1 (c := (340, 20126)) (f := c_f x_f P1 F1 A1 J1) (F := y_F) (A := y_A) (J := y_J)
  exact ⟨_, z_op0 g0 C g1 M, by show (340 : Nat) ≤ 600000; decide, by show (20126 : Nat) ≤ 7302250; decide⟩
set_option maxRecDepth 100000 in
theorem z_do1 : z_goal xs 239 := by
  obtain ⟨⟨P1, F1, A1, J1⟩, hE⟩ := o_back (A := x_A) (J := x_J) (x1 := xs 1)
  obtain ⟨⟨F2, A2, J2⟩, hD⟩ := p_back (J := y_J) (x1 := xs 1)
  have C := t_e_SleepWork_back (t := k_t xs 6) (lg := c_lg) (d := 40) (c := (340, 20126)) (B := x_f) (fun _ _ => rfl) hE
  obtain ⟨fs0, g0⟩ := z_g0 (c := (340, 20126)) (B := x_f) (P := x_P) (F := x_F) (A := x_A) (J := x_J)
  have C := z_C (P := P1) (F := F1) (A := A1) (J := J1) C
  have M := t_d_back (t := k_t xs 6) (lg := c_lg) (d := 40) (c := (340, 20126)) (B := c_f x_f P1 F1 A1 J1) (fun _ => rfl) hD
  obtain ⟨fs1, g1⟩ := z_g1 (c := (340, 20126)) (f := c_f x_f P1 F1 A1 J1) (F := y_F) (A := y_A) (J := y_J)
  exact ⟨_, z_op1 g0 C g1 M, by show (340 : Nat) ≤ 600000; decide, by show (20126 : Nat) ≤ 7302250; decide⟩
set_option maxRecDepth 100000 in
theorem z_do2 : z_goal xs 262 := by
  obtain ⟨⟨P1, F1, A1, J1⟩, hE⟩ := x_is_ex h_read
  obtain ⟨⟨F2, A2, J2⟩, hD⟩ := x_is_ex h_dread
  have C := t_e_SleepWork_read (t := k_t xs 6) (lg := c_lg) (d := 16) (c := (340, 20126)) (B := x_f) (fun _ _ => rfl) hE
  obtain ⟨fs0, g0⟩ := z_g0 (c := (340, 20126)) (B := x_f) (P := x_P) (F := x_F) (A := x_A) (J := x_J)
  have C := z_C (P := P1) (F := F1) (A := A1) (J := J1) C
  have M := t_d_read (t := k_t xs 6) (lg := c_lg) (d := 33) (c := (340, 20126)) (B := c_f x_f P1 F1 A1 J1) (fun _ => rfl) hD
  obtain ⟨fs1, g1⟩ := z_g1 (c := (340, 20126)) (f := c_f x_f P1 F1 A1 J1) (F := y_F) (A := y_A) (J := y_J)
  exact ⟨_, z_op2 g0 C g1 M, by show (340 : Nat) ≤ 600000; decide, by show (20126 : Nat) ≤ 7302250; decide⟩
set_option maxRecDepth 100000 in
theorem z_do3 : z_goal xs 275 := by
  have hE := o_place (A := x_A) (J := x_J) 
  have hD := p_place (J := y_J) 
  have C := t_e_SleepWork_place (t := k_t xs 6) (lg := c_lg) (d := 40) (c := (340, 20126)) (B := x_f) hE
  obtain ⟨fs0, g0⟩ := z_g0 (c := (340, 20126)) (B := x_f) (P := x_P) (F := x_F) (A := x_A) (J := x_J)
  have C := z_C (P := x_P) (F := x_F) (A := x_A) (J := x_J) C
  have M := t_d_place (t := k_t xs 6) (lg := c_lg) (d := 40) (c := (340, 20126)) (B := c_f x_f x_P x_F x_A x_J) hD
  obtain ⟨fs1, g1⟩ := z_g1 (c := (340, 20126)) (f := c_f x_f x_P x_F x_A x_J) (F := y_F) (A := y_A) (J := y_J)
  exact ⟨_, z_op3 g0 C g1 M, by show (340 : Nat) ≤ 600000; decide, by show (20126 : Nat) ≤ 7302250; decide⟩
set_option maxRecDepth 100000 in
theorem z_do4 : z_goal xs 288 := by
  have hE := o_task (A := x_A) (J := x_J) (x1 := xs 1) (x2 := xs 2) (n := 600)
  obtain ⟨⟨F2, A2, J2⟩, hD⟩ := p_task (J := y_J) (x1 := xs 1) (x2 := xs 2) (n := 600)
  have C := t_e_SleepWork_task (t := k_t xs 6) (lg := c_lg) (d := 39) (c := (340, 20126)) (B := x_f) hE
  obtain ⟨fs0, g0⟩ := z_g0 (c := (340, 20126)) (B := x_f) (P := x_P) (F := x_F) (A := x_A) (J := x_J)
  have C := z_C (P := x_P) (F := x_F) (A := x_A) (J := x_J) C
  have M := t_d_task (t := k_t xs 6) (lg := c_lg) (d := 38) (c := (340, 20126)) (B := c_f x_f x_P x_F x_A x_J) hD
  obtain ⟨fs1, g1⟩ := z_g1 (c := (340, 20126)) (f := c_f x_f x_P x_F x_A x_J) (F := y_F) (A := y_A) (J := y_J)
  exact ⟨_, z_op4 g0 C g1 M, by show (340 : Nat) ≤ 600000; decide, by show (20126 : Nat) ≤ 7302250; decide⟩
set_option maxRecDepth 100000 in
theorem z_do5 : z_goal xs 321 := by
  have hE := o_step (A := x_A) (J := x_J) (x1 := xs 1) (x2 := xs 2) (x3 := xs 3)
  have hD := p_step (J := y_J) (x1 := xs 1) (x2 := xs 2) (x3 := xs 3)
  have C := t_e_SleepWork_step (t := k_t xs 6) (lg := c_lg) (d := 39) (c := (340, 20126)) (B := x_f) hE
  obtain ⟨fs0, g0⟩ := z_g0 (c := (340, 20126)) (B := x_f) (P := x_P) (F := x_F) (A := x_A) (J := x_J)
  have C := z_C (P := x_P) (F := x_F) (A := x_A) (J := x_J) C
  have M := t_d_step (t := k_t xs 6) (lg := c_lg) (d := 37) (c := (340, 20126)) (B := c_f x_f x_P x_F x_A x_J) hD
  obtain ⟨fs1, g1⟩ := z_g1 (c := (340, 20126)) (f := c_f x_f x_P x_F x_A x_J) (F := y_F) (A := y_A) (J := y_J)
  exact ⟨_, z_op5 g0 C g1 M, by show (340 : Nat) ≤ 600000; decide, by show (20126 : Nat) ≤ 7302250; decide⟩
set_option maxRecDepth 100000 in
theorem z_do6 : z_goal xs 364 := by
  have hE := o_man (A := x_A) (J := x_J) (x1 := xs 1) (x2 := xs 2)
  have hD := p_man (J := y_J) (x1 := xs 1) (x2 := xs 2)
  have C := t_e_SleepWork_man (t := k_t xs 6) (lg := c_lg) (d := 39) (c := (340, 20126)) (B := x_f) hE
  obtain ⟨fs0, g0⟩ := z_g0 (c := (340, 20126)) (B := x_f) (P := x_P) (F := x_F) (A := x_A) (J := x_J)
  have C := z_C (P := x_P) (F := x_F) (A := x_A) (J := x_J) C
  have M := t_d_man (t := k_t xs 6) (lg := c_lg) (d := 38) (c := (340, 20126)) (B := c_f x_f x_P x_F x_A x_J) hD
  obtain ⟨fs1, g1⟩ := z_g1 (c := (340, 20126)) (f := c_f x_f x_P x_F x_A x_J) (F := y_F) (A := y_A) (J := y_J)
  exact ⟨_, z_op6 g0 C g1 M, by show (340 : Nat) ≤ 600000; decide, by show (20126 : Nat) ≤ 7302250; decide⟩
set_option maxRecDepth 100000 in
theorem z_do7 : z_goal xs 397 := by
  have hE := o_tool (A := x_A) (J := x_J) (x1 := xs 1)
  have hD := p_tool (J := y_J) (x1 := xs 1)
  have C := t_e_SleepWork_tool (t := k_t xs 6) (lg := c_lg) (d := 39) (c := (340, 20126)) (B := x_f) hE
  obtain ⟨fs0, g0⟩ := z_g0 (c := (340, 20126)) (B := x_f) (P := x_P) (F := x_F) (A := x_A) (J := x_J)
  have C := z_C (P := x_P) (F := x_F) (A := x_A) (J := x_J) C
  have M := t_d_tool (t := k_t xs 6) (lg := c_lg) (d := 38) (c := (340, 20126)) (B := c_f x_f x_P x_F x_A x_J) hD
  obtain ⟨fs1, g1⟩ := z_g1 (c := (340, 20126)) (f := c_f x_f x_P x_F x_A x_J) (F := y_F) (A := y_A) (J := y_J)
  exact ⟨_, z_op7 g0 C g1 M, by show (340 : Nat) ≤ 600000; decide, by show (20126 : Nat) ≤ 7302250; decide⟩
set_option maxRecDepth 100000 in
theorem z_do8 : z_goal xs 420 := by
  obtain ⟨⟨P1, F1, A1, J1⟩, hE⟩ := o_way (A := x_A) (J := x_J) (x1 := xs 1) (x2 := xs 2) (n := 600)
  obtain ⟨⟨F2, A2, J2⟩, hD⟩ := p_way (J := y_J) (x1 := xs 1) (x2 := xs 2) (n := 600)
  have C := t_e_SleepWork_way (t := k_t xs 6) (lg := c_lg) (d := 36) (c := (340, 20126)) (B := x_f) (fun _ _ => rfl) hE
  obtain ⟨fs0, g0⟩ := z_g0 (c := (340, 20126)) (B := x_f) (P := x_P) (F := x_F) (A := x_A) (J := x_J)
  have C := z_C (P := P1) (F := F1) (A := A1) (J := J1) C
  have M := t_d_way (t := k_t xs 6) (lg := c_lg) (d := 38) (c := (340, 20126)) (B := c_f x_f P1 F1 A1 J1) hD
  obtain ⟨fs1, g1⟩ := z_g1 (c := (340, 20126)) (f := c_f x_f P1 F1 A1 J1) (F := y_F) (A := y_A) (J := y_J)
  exact ⟨_, z_op8 g0 C g1 M, by show (340 : Nat) ≤ 600000; decide, by show (20126 : Nat) ≤ 7302250; decide⟩
set_option maxRecDepth 100000 in
theorem z_do9 : z_goal xs 453 := by
  obtain ⟨⟨P1, F1, A1, J1⟩, hE⟩ := o_leave (A := x_A) (J := x_J) (x1 := xs 1) (x2 := xs 2) (x3 := xs 3)
  obtain ⟨⟨F2, A2, J2⟩, hD⟩ := p_leave (J := y_J) (x1 := xs 1) (x2 := xs 2) (x3 := xs 3)
  have C := t_e_SleepWork_leave (t := k_t xs 6) (lg := c_lg) (d := 39) (c := (340, 20126)) (B := x_f) (fun _ _ => rfl) hE
  obtain ⟨fs0, g0⟩ := z_g0 (c := (340, 20126)) (B := x_f) (P := x_P) (F := x_F) (A := x_A) (J := x_J)
  have C := z_C (P := P1) (F := F1) (A := A1) (J := J1) C
  have M := t_d_leave (t := k_t xs 6) (lg := c_lg) (d := 36) (c := (340, 20126)) (B := c_f x_f P1 F1 A1 J1) hD
  obtain ⟨fs1, g1⟩ := z_g1 (c := (340, 20126)) (f := c_f x_f P1 F1 A1 J1) (F := y_F) (A := y_A) (J := y_J)
  exact ⟨_, z_op9 g0 C g1 M, by show (340 : Nat) ≤ 600000; decide, by show (20126 : Nat) ≤ 7302250; decide⟩
set_option maxRecDepth 100000 in
theorem z_do10 : z_goal xs 496 := by
  obtain ⟨⟨P1, F1, A1, J1⟩, hE⟩ := o_work (A := x_A) (J := x_J) (x1 := xs 1) (x2 := xs 2)
  obtain ⟨⟨F2, A2, J2⟩, hD⟩ := p_work (J := y_J) (x1 := xs 1) (x2 := xs 2) (n := 600)
  have C := t_e_SleepWork_work (t := k_t xs 6) (lg := c_lg) (d := 39) (c := (340, 20126)) (B := x_f) (fun _ _ => rfl) hE
  obtain ⟨fs0, g0⟩ := z_g0 (c := (340, 20126)) (B := x_f) (P := x_P) (F := x_F) (A := x_A) (J := x_J)
  have C := z_C (P := P1) (F := F1) (A := A1) (J := J1) C
  have M := t_d_work (t := k_t xs 6) (lg := c_lg) (d := 37) (c := (340, 20126)) (B := c_f x_f P1 F1 A1 J1) hD
  obtain ⟨fs1, g1⟩ := z_g1 (c := (340, 20126)) (f := c_f x_f P1 F1 A1 J1) (F := y_F) (A := y_A) (J := y_J)
  exact ⟨_, z_op10 g0 C g1 M, by show (340 : Nat) ≤ 600000; decide, by show (20126 : Nat) ≤ 7302250; decide⟩
set_option maxRecDepth 100000 in
theorem z_do11 : z_goal xs 529 := by
  obtain ⟨⟨P1, F1, A1, J1⟩, hE⟩ := o_lay (A := x_A) (J := x_J) (x1 := xs 1) (x2 := xs 2)
  obtain ⟨⟨F2, A2, J2⟩, hD⟩ := p_lay (J := y_J) (x1 := xs 1) (x2 := xs 2)
  have C := t_e_SleepWork_lay (t := k_t xs 6) (lg := c_lg) (d := 39) (c := (340, 20126)) (B := x_f) (fun _ _ => rfl) hE
  obtain ⟨fs0, g0⟩ := z_g0 (c := (340, 20126)) (B := x_f) (P := x_P) (F := x_F) (A := x_A) (J := x_J)
  have C := z_C (P := P1) (F := F1) (A := A1) (J := J1) C
  have M := t_d_lay (t := k_t xs 6) (lg := c_lg) (d := 38) (c := (340, 20126)) (B := c_f x_f P1 F1 A1 J1) hD
  obtain ⟨fs1, g1⟩ := z_g1 (c := (340, 20126)) (f := c_f x_f P1 F1 A1 J1) (F := y_F) (A := y_A) (J := y_J)
  exact ⟨_, z_op11 g0 C g1 M, by show (340 : Nat) ≤ 600000; decide, by show (20126 : Nat) ≤ 7302250; decide⟩
set_option maxRecDepth 100000 in
theorem z_do12 : z_goal xs 562 := by
  obtain ⟨⟨P1, F1, A1, J1⟩, hE⟩ := o_give (A := x_A) (J := x_J) (x1 := xs 1) (x2 := xs 2)
  obtain ⟨⟨F2, A2, J2⟩, hD⟩ := p_give (J := y_J) (x1 := xs 1) (x2 := xs 2)
  have C := t_e_SleepWork_give (t := k_t xs 6) (lg := c_lg) (d := 39) (c := (340, 20126)) (B := x_f) (fun _ _ => rfl) hE
  obtain ⟨fs0, g0⟩ := z_g0 (c := (340, 20126)) (B := x_f) (P := x_P) (F := x_F) (A := x_A) (J := x_J)
  have C := z_C (P := P1) (F := F1) (A := A1) (J := J1) C
  have M := t_d_give (t := k_t xs 6) (lg := c_lg) (d := 38) (c := (340, 20126)) (B := c_f x_f P1 F1 A1 J1) hD
  obtain ⟨fs1, g1⟩ := z_g1 (c := (340, 20126)) (f := c_f x_f P1 F1 A1 J1) (F := y_F) (A := y_A) (J := y_J)
  exact ⟨_, z_op12 g0 C g1 M, by show (340 : Nat) ≤ 600000; decide, by show (20126 : Nat) ≤ 7302250; decide⟩
set_option maxRecDepth 100000 in
theorem z_do13 : z_goal xs 595 := by
  obtain ⟨⟨P1, F1, A1, J1⟩, hE⟩ := o_bar (A := x_A) (J := x_J) (x1 := xs 1) (x2 := if xs 2 = 0 then 0 else 1)
  obtain ⟨⟨F2, A2, J2⟩, hD⟩ := p_bar (J := y_J) (x1 := xs 1) (x2 := if xs 2 = 0 then 0 else 1)
  have C := t_e_SleepWork_bar (t := k_t xs 6) (lg := c_lg) (d := 39) (c := (340, 20126)) (B := x_f) (fun _ _ => rfl) hE
  obtain ⟨fs0, g0⟩ := z_g0 (c := (340, 20126)) (B := x_f) (P := x_P) (F := x_F) (A := x_A) (J := x_J)
  have C := z_C (P := P1) (F := F1) (A := A1) (J := J1) C
  have M := t_d_bar (t := k_t xs 6) (lg := c_lg) (d := 39) (c := (340, 20126)) (B := c_f x_f P1 F1 A1 J1) hD
  obtain ⟨fs1, g1⟩ := z_g1 (c := (340, 20126)) (f := c_f x_f P1 F1 A1 J1) (F := y_F) (A := y_A) (J := y_J)
  exact ⟨_, z_op13 rfl g0 C g1 M, by show (340 : Nat) ≤ 600000; decide, by show (20126 : Nat) ≤ 7302250; decide⟩
set_option maxRecDepth 100000 in
theorem z_do14 : z_goal xs 644 := by
  obtain ⟨⟨P1, F1, A1, J1⟩, hE⟩ := x_is_ex h_night
  obtain ⟨⟨F2, A2, J2⟩, hD⟩ := x_is_ex h_dnight
  have C := t_e_SleepWork_night (t := k_t xs 6) (lg := c_lg) (d := 34) (c := (340, 20126)) (B := x_f) (fun _ _ => rfl) hE
  obtain ⟨fs0, g0⟩ := z_g0 (c := (340, 20126)) (B := x_f) (P := x_P) (F := x_F) (A := x_A) (J := x_J)
  have C := z_C (P := P1) (F := F1) (A := A1) (J := J1) C
  have M := t_d_night (t := k_t xs 6) (lg := c_lg) (d := 35) (c := (340, 20126)) (B := c_f x_f P1 F1 A1 J1) (fun _ => rfl) hD
  obtain ⟨fs1, g1⟩ := z_g1 (c := (340, 20126)) (f := c_f x_f P1 F1 A1 J1) (F := y_F) (A := y_A) (J := y_J)
  exact ⟨_, z_op14 g0 C g1 M, by show (340 : Nat) ≤ 600000; decide, by show (20126 : Nat) ≤ 7302250; decide⟩
set_option maxRecDepth 100000 in
theorem z_do15 : z_goal xs 657 := by
  obtain ⟨⟨P1, F1, A1, J1⟩, hE⟩ := o_undo (A := x_A) (J := x_J) 
  obtain ⟨⟨F2, A2, J2⟩, hD⟩ := p_undo (J := y_J)  (n := 600)
  have C := t_e_SleepWork_undo (t := k_t xs 6) (lg := c_lg) (d := 38) (c := (340, 20126)) (B := x_f) (fun _ _ => rfl) hE
  obtain ⟨fs0, g0⟩ := z_g0 (c := (340, 20126)) (B := x_f) (P := x_P) (F := x_F) (A := x_A) (J := x_J)
  have C := z_C (P := P1) (F := F1) (A := A1) (J := J1) C
  have M := t_d_undo (t := k_t xs 6) (lg := c_lg) (d := 40) (c := (340, 20126)) (B := c_f x_f P1 F1 A1 J1) (fun _ => rfl) hD
  obtain ⟨fs1, g1⟩ := z_g1 (c := (340, 20126)) (f := c_f x_f P1 F1 A1 J1) (F := y_F) (A := y_A) (J := y_J)
  exact ⟨_, z_op15 g0 C g1 M, by show (340 : Nat) ≤ 600000; decide, by show (20126 : Nat) ≤ 7302250; decide⟩
set_option maxRecDepth 100000 in
theorem z_do16 : z_goal xs 670 := by
  obtain ⟨⟨P1, F1, A1, J1⟩, hE⟩ := x_is_ex h_gain
  obtain ⟨⟨F2, A2, J2⟩, hD⟩ := x_is_ex h_dgain
  have C := t_e_SleepWork_gain (t := k_t xs 6) (lg := c_lg) (d := 33) (c := (340, 20126)) (B := x_f) (fun _ _ => rfl) hE
  obtain ⟨fs0, g0⟩ := z_g0 (c := (340, 20126)) (B := x_f) (P := x_P) (F := x_F) (A := x_A) (J := x_J)
  have C := z_C (P := P1) (F := F1) (A := A1) (J := J1) C
  have M := t_d_gain (t := k_t xs 6) (lg := c_lg) (d := 35) (c := (340, 20126)) (B := c_f x_f P1 F1 A1 J1) (fun _ => rfl) hD
  obtain ⟨fs1, g1⟩ := z_g1 (c := (340, 20126)) (f := c_f x_f P1 F1 A1 J1) (F := y_F) (A := y_A) (J := y_J)
  exact ⟨_, z_op16 g0 C g1 M, by show (340 : Nat) ≤ 600000; decide, by show (20126 : Nat) ≤ 7302250; decide⟩
set_option maxRecDepth 100000 in
theorem z_do17 : z_goal xs 683 := by
  obtain ⟨⟨P1, F1, A1, J1⟩, hE⟩ := o_best (A := x_A) (J := x_J) (x1 := xs 1) (x2 := xs 2) (n := 600)
  obtain ⟨⟨F2, A2, J2⟩, hD⟩ := p_best (J := y_J) (x1 := xs 1) (x2 := xs 2) (n := 600)
  have C := t_e_SleepWork_best (t := k_t xs 6) (lg := c_lg) (d := 33) (c := (340, 20126)) (B := x_f) (fun _ _ => rfl) hE
  obtain ⟨fs0, g0⟩ := z_g0 (c := (340, 20126)) (B := x_f) (P := x_P) (F := x_F) (A := x_A) (J := x_J)
  have C := z_C (P := P1) (F := F1) (A := A1) (J := J1) C
  have M := t_d_best (t := k_t xs 6) (lg := c_lg) (d := 33) (c := (340, 20126)) (B := c_f x_f P1 F1 A1 J1) (fun _ => rfl) hD
  obtain ⟨fs1, g1⟩ := z_g1 (c := (340, 20126)) (f := c_f x_f P1 F1 A1 J1) (F := y_F) (A := y_A) (J := y_J)
  exact ⟨_, z_op17 g0 C g1 M, by show (340 : Nat) ≤ 600000; decide, by show (20126 : Nat) ≤ 7302250; decide⟩
set_option maxRecDepth 100000 in
theorem z_do18 : z_goal xs 716 := by
  obtain ⟨⟨P1, F1, A1, J1⟩, hE⟩ := o_bestOfTwo (A := x_A) (J := x_J) (x1 := xs 1) (x2 := xs 2) (x3 := xs 3) (n := 600)
  obtain ⟨⟨F2, A2, J2⟩, hD⟩ := p_bestOfTwo (J := y_J) (x1 := xs 1) (x2 := xs 2) (x3 := xs 3) (n := 600)
  have C := t_e_SleepWork_bestOfTwo (t := k_t xs 6) (lg := c_lg) (d := 33) (c := (340, 20126)) (B := x_f) (fun _ _ => rfl) hE
  obtain ⟨fs0, g0⟩ := z_g0 (c := (340, 20126)) (B := x_f) (P := x_P) (F := x_F) (A := x_A) (J := x_J)
  have C := z_C (P := P1) (F := F1) (A := A1) (J := J1) C
  have M := t_d_bestOfTwo (t := k_t xs 6) (lg := c_lg) (d := 35) (c := (340, 20126)) (B := c_f x_f P1 F1 A1 J1) (fun _ => rfl) hD
  obtain ⟨fs1, g1⟩ := z_g1 (c := (340, 20126)) (f := c_f x_f P1 F1 A1 J1) (F := y_F) (A := y_A) (J := y_J)
  exact ⟨_, z_op18 g0 C g1 M, by show (340 : Nat) ≤ 600000; decide, by show (20126 : Nat) ≤ 7302250; decide⟩
set_option maxRecDepth 100000 in
theorem z_do19 : z_goal xs 759 := by
  obtain ⟨⟨P1, F1, A1, J1⟩, hE⟩ := o_hire (A := x_A) (J := x_J) (x1 := xs 1) (n := 600)
  obtain ⟨⟨F2, A2, J2⟩, hD⟩ := p_hire (J := y_J) (x1 := xs 1) (n := 600)
  have C := t_e_SleepWork_hire (t := k_t xs 6) (lg := c_lg) (d := 33) (c := (340, 20126)) (B := x_f) (fun _ _ => rfl) hE
  obtain ⟨fs0, g0⟩ := z_g0 (c := (340, 20126)) (B := x_f) (P := x_P) (F := x_F) (A := x_A) (J := x_J)
  have C := z_C (P := P1) (F := F1) (A := A1) (J := J1) C
  have M := t_d_hire (t := k_t xs 6) (lg := c_lg) (d := 33) (c := (340, 20126)) (B := c_f x_f P1 F1 A1 J1) (fun _ => rfl) hD
  obtain ⟨fs1, g1⟩ := z_g1 (c := (340, 20126)) (f := c_f x_f P1 F1 A1 J1) (F := y_F) (A := y_A) (J := y_J)
  exact ⟨_, z_op19 g0 C g1 M, by show (340 : Nat) ≤ 600000; decide, by show (20126 : Nat) ≤ 7302250; decide⟩
set_option maxRecDepth 100000 in
theorem z_do20 : z_goal xs 782 := by
  obtain ⟨⟨P1, F1, A1, J1⟩, hE⟩ := o_hide (A := x_A) (J := x_J) (x1 := xs 1) (x2 := xs 2) (n := 600)
  obtain ⟨⟨F2, A2, J2⟩, hD⟩ := p_hide (J := y_J) (x1 := xs 1) (x2 := xs 2) (n := 600)
  have C := t_e_SleepWork_hide (t := k_t xs 6) (lg := c_lg) (d := 33) (c := (340, 20126)) (B := x_f) (fun _ _ => rfl) hE
  obtain ⟨fs0, g0⟩ := z_g0 (c := (340, 20126)) (B := x_f) (P := x_P) (F := x_F) (A := x_A) (J := x_J)
  have C := z_C (P := P1) (F := F1) (A := A1) (J := J1) C
  have M := t_d_hide (t := k_t xs 6) (lg := c_lg) (d := 35) (c := (340, 20126)) (B := c_f x_f P1 F1 A1 J1) (fun _ => rfl) hD
  obtain ⟨fs1, g1⟩ := z_g1 (c := (340, 20126)) (f := c_f x_f P1 F1 A1 J1) (F := y_F) (A := y_A) (J := y_J)
  exact ⟨_, z_op20 g0 C g1 M, by show (340 : Nat) ≤ 600000; decide, by show (20126 : Nat) ≤ 7302250; decide⟩
set_option maxRecDepth 100000 in
theorem z_do21 : z_goal xs 815 := by
  by_cases h0 : xs 1 = 0
  · have C : k_run (k_t xs 6) c_lg 40 127 0 [(0, .ref 0), (1, .int (xs 1))] [] (c_h (340, 20126) x_f x_P x_F x_A x_J) (some (.int 0), ((341, 20128), x_fb0)) := by
      rw [h0, x_hb_eq]
      exact n_run (t := x_t) (t' := k_t xs 6) rfl rfl _ _ _ _ _ _ _ _ (Classical.choose_spec x_b0).1
    obtain ⟨fs0, g0⟩ := z_g0 (c := (340, 20126)) (B := x_f) (P := x_P) (F := x_F) (A := x_A) (J := x_J)
    have C := z_Cb (J := y_Jb0) (Classical.choose_spec x_b0).2 C
    obtain ⟨⟨F2, A2, J2⟩, hD⟩ := x_is_ex (o := d_bars 600 y_F y_A y_Jb0 (xs 1)) (v := 0) (by rw [h0]; exact h_dbars0)
    have M := t_d_bars (t := k_t xs 6) (lg := c_lg) (d := 35) (c := (341, 20128)) (B := x_fb0) (fun _ => rfl) hD
    obtain ⟨fs1, g1⟩ := z_g1 (c := (341, 20128)) (f := x_fb0) (F := y_F) (A := y_A) (J := y_Jb0)
    exact ⟨_, z_op21 g0 C g1 M, by show (341 : Nat) ≤ 600000; decide, by show (20128 : Nat) ≤ 7302250; decide⟩
  by_cases h1 : xs 1 = 1
  · have C : k_run (k_t xs 6) c_lg 40 127 0 [(0, .ref 0), (1, .int (xs 1))] [] (c_h (340, 20126) x_f x_P x_F x_A x_J) (some (.int 0), ((341, 20128), x_fb1)) := by
      rw [h1, x_hb_eq]
      exact n_run (t := x_t) (t' := k_t xs 6) rfl rfl _ _ _ _ _ _ _ _ (Classical.choose_spec x_b1).1
    obtain ⟨fs0, g0⟩ := z_g0 (c := (340, 20126)) (B := x_f) (P := x_P) (F := x_F) (A := x_A) (J := x_J)
    have C := z_Cb (J := y_Jb1) (Classical.choose_spec x_b1).2 C
    obtain ⟨⟨F2, A2, J2⟩, hD⟩ := x_is_ex (o := d_bars 600 y_F y_A y_Jb1 (xs 1)) (v := 0) (by rw [h1]; exact h_dbars1)
    have M := t_d_bars (t := k_t xs 6) (lg := c_lg) (d := 35) (c := (341, 20128)) (B := x_fb1) (fun _ => rfl) hD
    obtain ⟨fs1, g1⟩ := z_g1 (c := (341, 20128)) (f := x_fb1) (F := y_F) (A := y_A) (J := y_Jb1)
    exact ⟨_, z_op21 g0 C g1 M, by show (341 : Nat) ≤ 600000; decide, by show (20128 : Nat) ≤ 7302250; decide⟩
  obtain ⟨fs0, g0⟩ := z_g0 (c := (340, 20126)) (B := x_f) (P := x_P) (F := x_F) (A := x_A) (J := x_J)
  have C := o_bars (t := k_t xs 6) (lg := c_lg) (d := 40) (h := c_h (340, 20126) x_f x_P x_F x_A x_J) h0 h1
  have C := z_C (P := x_P) (F := x_F) (A := x_A) (J := x_J) C
  obtain ⟨⟨F2, A2, J2⟩, hD⟩ := p_bars (n := 600) (J := y_J) h0 h1
  have M := t_d_bars (t := k_t xs 6) (lg := c_lg) (d := 35) (c := (340, 20126)) (B := c_f x_f x_P x_F x_A x_J) (fun _ => rfl) hD
  obtain ⟨fs1, g1⟩ := z_g1 (c := (340, 20126)) (f := c_f x_f x_P x_F x_A x_J) (F := y_F) (A := y_A) (J := y_J)
  exact ⟨_, z_op21 g0 C g1 M, by show (340 : Nat) ≤ 600000; decide, by show (20126 : Nat) ≤ 7302250; decide⟩
set_option maxRecDepth 100000 in
theorem z_do22 : z_goal xs 838 := by
  obtain ⟨⟨P1, F1, A1, J1⟩, hE⟩ := o_where (A := x_A) (J := x_J) (x1 := xs 1) (x2 := xs 2) (n := 600)
  obtain ⟨⟨F2, A2, J2⟩, hD⟩ := p_where (J := y_J) (x1 := xs 1) (x2 := xs 2) (n := 600)
  have C := t_e_SleepWork_where (t := k_t xs 6) (lg := c_lg) (d := 36) (c := (340, 20126)) (B := x_f) (fun _ _ => rfl) hE
  obtain ⟨fs0, g0⟩ := z_g0 (c := (340, 20126)) (B := x_f) (P := x_P) (F := x_F) (A := x_A) (J := x_J)
  have C := z_C (P := P1) (F := F1) (A := A1) (J := J1) C
  have M := t_d_where (t := k_t xs 6) (lg := c_lg) (d := 38) (c := (340, 20126)) (B := c_f x_f P1 F1 A1 J1) hD
  obtain ⟨fs1, g1⟩ := z_g1 (c := (340, 20126)) (f := c_f x_f P1 F1 A1 J1) (F := y_F) (A := y_A) (J := y_J)
  exact ⟨_, z_op22 g0 C g1 M, by show (340 : Nat) ≤ 600000; decide, by show (20126 : Nat) ≤ 7302250; decide⟩
set_option maxRecDepth 100000 in
theorem z_do23 : z_goal xs 871 := by
  obtain ⟨⟨P1, F1, A1, J1⟩, hE⟩ := o_strokes (A := x_A) (J := x_J) (x1 := xs 1) (x2 := xs 2) (n := 600)
  obtain ⟨⟨F2, A2, J2⟩, hD⟩ := p_strokes (J := y_J) (x1 := xs 1) (x2 := xs 2) (n := 600)
  have C := t_e_SleepWork_strokes (t := k_t xs 6) (lg := c_lg) (d := 34) (c := (340, 20126)) (B := x_f) (fun _ _ => rfl) hE
  obtain ⟨fs0, g0⟩ := z_g0 (c := (340, 20126)) (B := x_f) (P := x_P) (F := x_F) (A := x_A) (J := x_J)
  have C := z_C (P := P1) (F := F1) (A := A1) (J := J1) C
  have M := t_d_strokes (t := k_t xs 6) (lg := c_lg) (d := 36) (c := (340, 20126)) (B := c_f x_f P1 F1 A1 J1) (fun _ => rfl) hD
  obtain ⟨fs1, g1⟩ := z_g1 (c := (340, 20126)) (f := c_f x_f P1 F1 A1 J1) (F := y_F) (A := y_A) (J := y_J)
  exact ⟨_, z_op23 g0 C g1 M, by show (340 : Nat) ≤ 600000; decide, by show (20126 : Nat) ≤ 7302250; decide⟩
set_option maxRecDepth 100000 in
theorem z_do24 : z_goal xs 904 := by
  obtain ⟨⟨P1, F1, A1, J1⟩, hE⟩ := o_tell (A := x_A) (J := x_J) (x1 := xs 1) (x2 := xs 2) (x3 := xs 3)
  obtain ⟨⟨F2, A2, J2⟩, hD⟩ := p_tell (J := y_J) (x1 := xs 1) (x2 := xs 2) (x3 := xs 3)
  have C := t_e_SleepWork_tell (t := k_t xs 6) (lg := c_lg) (d := 39) (c := (340, 20126)) (B := x_f) (fun _ _ => rfl) hE
  obtain ⟨fs0, g0⟩ := z_g0 (c := (340, 20126)) (B := x_f) (P := x_P) (F := x_F) (A := x_A) (J := x_J)
  have C := z_C (P := P1) (F := F1) (A := A1) (J := J1) C
  have M := t_d_tell3 (t := k_t xs 6) (lg := c_lg) (d := 37) (c := (340, 20126)) (B := c_f x_f P1 F1 A1 J1) (fun _ => rfl) hD
  obtain ⟨fs1, g1⟩ := z_g1 (c := (340, 20126)) (f := c_f x_f P1 F1 A1 J1) (F := y_F) (A := y_A) (J := y_J)
  exact ⟨_, z_op24 g0 C g1 M, by show (340 : Nat) ≤ 600000; decide, by show (20126 : Nat) ≤ 7302250; decide⟩
set_option maxRecDepth 100000 in
theorem z_do25 : z_goal xs 947 := by
  obtain ⟨⟨P1, F1, A1, J1⟩, hE⟩ := o_forget (A := x_A) (J := x_J) 
  obtain ⟨⟨F2, A2, J2⟩, hD⟩ := p_forget (J := y_J) 
  have C := t_e_SleepWork_forget (t := k_t xs 6) (lg := c_lg) (d := 39) (c := (340, 20126)) (B := x_f) (fun _ _ => rfl) hE
  obtain ⟨fs0, g0⟩ := z_g0 (c := (340, 20126)) (B := x_f) (P := x_P) (F := x_F) (A := x_A) (J := x_J)
  have C := z_C (P := P1) (F := F1) (A := A1) (J := J1) C
  have M := t_d_forget (t := k_t xs 6) (lg := c_lg) (d := 40) (c := (340, 20126)) (B := c_f x_f P1 F1 A1 J1) (fun _ => rfl) hD
  obtain ⟨fs1, g1⟩ := z_g1 (c := (340, 20126)) (f := c_f x_f P1 F1 A1 J1) (F := y_F) (A := y_A) (J := y_J)
  exact ⟨_, z_op25 g0 C g1 M, by show (340 : Nat) ≤ 600000; decide, by show (20126 : Nat) ≤ 7302250; decide⟩
set_option maxRecDepth 100000 in
theorem z_do26 : z_goal xs 960 := by
  obtain ⟨⟨P1, F1, A1, J1⟩, hE⟩ := o_fits (A := x_A) (J := x_J) (x1 := xs 1) (x2 := xs 2) (x3 := xs 3) (n := 600)
  obtain ⟨⟨F2, A2, J2⟩, hD⟩ := p_fits (J := y_J) (x1 := xs 1) (x2 := xs 2) (x3 := xs 3) (n := 600)
  have C := t_e_SleepWork_fits (t := k_t xs 6) (lg := c_lg) (d := 34) (c := (340, 20126)) (B := x_f) (fun _ _ => rfl) hE
  obtain ⟨fs0, g0⟩ := z_g0 (c := (340, 20126)) (B := x_f) (P := x_P) (F := x_F) (A := x_A) (J := x_J)
  have C := z_C (P := P1) (F := F1) (A := A1) (J := J1) C
  have M := t_d_fits (t := k_t xs 6) (lg := c_lg) (d := 34) (c := (340, 20126)) (B := c_f x_f P1 F1 A1 J1) (fun _ => rfl) hD
  obtain ⟨fs1, g1⟩ := z_g1 (c := (340, 20126)) (f := c_f x_f P1 F1 A1 J1) (F := y_F) (A := y_A) (J := y_J)
  exact ⟨_, z_op26 g0 C g1 M, by show (340 : Nat) ≤ 600000; decide, by show (20126 : Nat) ≤ 7302250; decide⟩
set_option maxRecDepth 100000 in
theorem z_do27 : z_goal xs 1003 := by
  by_cases h : xs 1 = 0
  · have hx := h_susp
    have hy := h_dsusp
    obtain ⟨⟨P1, F1, A1, J1⟩, hE⟩ := x_is_ex (o := e_SleepWork_suspects 600 x_P x_F x_A x_J (xs 1)) (v := 0) (by rw [h]; exact h_susp)
    obtain ⟨⟨F2, A2, J2⟩, hD⟩ := x_is_ex (o := d_suspects 600 y_F y_A y_J (xs 1)) (v := 0) (by rw [h]; exact h_dsusp)
    have C := t_e_SleepWork_suspects (t := k_t xs 6) (lg := c_lg) (d := 33) (c := (340, 20126)) (B := x_f) (fun _ _ => rfl) hE
    obtain ⟨fs0, g0⟩ := z_g0 (c := (340, 20126)) (B := x_f) (P := x_P) (F := x_F) (A := x_A) (J := x_J)
    have C := z_C (P := P1) (F := F1) (A := A1) (J := J1) C
    have M := t_d_suspects (t := k_t xs 6) (lg := c_lg) (d := 33) (c := (340, 20126)) (B := c_f x_f P1 F1 A1 J1) (fun _ => rfl) hD
    obtain ⟨fs1, g1⟩ := z_g1 (c := (340, 20126)) (f := c_f x_f P1 F1 A1 J1) (F := y_F) (A := y_A) (J := y_J)
    exact ⟨_, z_op27 g0 C g1 M, by show (340 : Nat) ≤ 600000; decide, by show (20126 : Nat) ≤ 7302250; decide⟩
  · obtain ⟨⟨P1, F1, A1, J1⟩, hE⟩ := o_suspects (n := 600) (x1 := xs 1) (A := x_A) (J := x_J) h
    obtain ⟨⟨F2, A2, J2⟩, hD⟩ := p_suspects (n := 600) (x1 := xs 1) (J := y_J) h
    have C := t_e_SleepWork_suspects (t := k_t xs 6) (lg := c_lg) (d := 33) (c := (340, 20126)) (B := x_f) (fun _ _ => rfl) hE
    obtain ⟨fs0, g0⟩ := z_g0 (c := (340, 20126)) (B := x_f) (P := x_P) (F := x_F) (A := x_A) (J := x_J)
    have C := z_C (P := P1) (F := F1) (A := A1) (J := J1) C
    have M := t_d_suspects (t := k_t xs 6) (lg := c_lg) (d := 33) (c := (340, 20126)) (B := c_f x_f P1 F1 A1 J1) (fun _ => rfl) hD
    obtain ⟨fs1, g1⟩ := z_g1 (c := (340, 20126)) (f := c_f x_f P1 F1 A1 J1) (F := y_F) (A := y_A) (J := y_J)
    exact ⟨_, z_op27 g0 C g1 M, by show (340 : Nat) ≤ 600000; decide, by show (20126 : Nat) ≤ 7302250; decide⟩
set_option maxRecDepth 100000 in
theorem z_do28 : z_goal xs 1026 := by
  obtain ⟨⟨P1, F1, A1, J1⟩, hE⟩ := o_pairs (A := x_A) (J := x_J) (x1 := xs 1) (x2 := xs 2) (x3 := xs 3) (n := 600)
  obtain ⟨⟨F2, A2, J2⟩, hD⟩ := p_pairs (J := y_J) (x1 := xs 1) (x2 := xs 2) (x3 := xs 3) (n := 600)
  have C := t_e_SleepWork_pairs (t := k_t xs 6) (lg := c_lg) (d := 34) (c := (340, 20126)) (B := x_f) (fun _ _ => rfl) hE
  obtain ⟨fs0, g0⟩ := z_g0 (c := (340, 20126)) (B := x_f) (P := x_P) (F := x_F) (A := x_A) (J := x_J)
  have C := z_C (P := P1) (F := F1) (A := A1) (J := J1) C
  have M := t_d_pairs (t := k_t xs 6) (lg := c_lg) (d := 34) (c := (340, 20126)) (B := c_f x_f P1 F1 A1 J1) (fun _ => rfl) hD
  obtain ⟨fs1, g1⟩ := z_g1 (c := (340, 20126)) (f := c_f x_f P1 F1 A1 J1) (F := y_F) (A := y_A) (J := y_J)
  exact ⟨_, z_op28 g0 C g1 M, by show (340 : Nat) ≤ 600000; decide, by show (20126 : Nat) ≤ 7302250; decide⟩
set_option maxRecDepth 100000 in
theorem z_do29 : z_goal xs 1069 := by
  cases h1 : g_cnd .lt (xs 1) 0 with
  | true =>
    obtain ⟨⟨P1, F1, A1, J1⟩, hE⟩ := (by unfold e_SleepWork_hold; rw [h1]; exact ⟨_, rfl⟩ : ∃ w, e_SleepWork_hold x_P x_F x_A x_J (xs 1) = some (0, w))
    obtain ⟨⟨F2, A2, J2⟩, hD⟩ := (by unfold d_hold d_in; rw [h1]; exact ⟨_, rfl⟩ : ∃ w, d_hold 600 y_F y_A y_J (xs 1) = some (0, w))
    have C := t_e_SleepWork_hold (t := k_t xs 6) (lg := c_lg) (d := 39) (c := (340, 20126)) (B := x_f) (fun _ _ => rfl) hE
    obtain ⟨fs0, g0⟩ := z_g0 (c := (340, 20126)) (B := x_f) (P := x_P) (F := x_F) (A := x_A) (J := x_J)
    have C := z_C (P := P1) (F := F1) (A := A1) (J := J1) C
    have M := t_d_hold (t := k_t xs 6) (lg := c_lg) (d := 39) (c := (340, 20126)) (B := c_f x_f P1 F1 A1 J1) hD
    obtain ⟨fs1, g1⟩ := z_g1 (c := (340, 20126)) (f := c_f x_f P1 F1 A1 J1) (F := y_F) (A := y_A) (J := y_J)
    exact ⟨_, z_op29 g0 C g1 M, by show (340 : Nat) ≤ 600000; decide, by show (20126 : Nat) ≤ 7302250; decide⟩
  | false =>
    cases h2 : g_cnd .lt (xs 1) 3 with
    | true =>
      obtain ⟨⟨P1, F1, A1, J1⟩, hE⟩ := o_hold012 (v_012 h1 h2)
      obtain ⟨⟨F2, A2, J2⟩, hD⟩ := p_hold012 (v_012 h1 h2)
      have C := t_e_SleepWork_hold (t := k_t xs 6) (lg := c_lg) (d := 39) (c := (340, 20126)) (B := x_f) (fun _ _ => rfl) hE
      obtain ⟨fs0, g0⟩ := z_g0 (c := (340, 20126)) (B := x_f) (P := x_P) (F := x_F) (A := x_A) (J := x_J)
      have C := z_C (P := P1) (F := F1) (A := A1) (J := J1) C
      have M := t_d_hold (t := k_t xs 6) (lg := c_lg) (d := 39) (c := (340, 20126)) (B := c_f x_f P1 F1 A1 J1) hD
      obtain ⟨fs1, g1⟩ := z_g1 (c := (340, 20126)) (f := c_f x_f P1 F1 A1 J1) (F := y_F) (A := y_A) (J := y_J)
      exact ⟨_, z_op29 g0 C g1 M, by show (340 : Nat) ≤ 600000; decide, by show (20126 : Nat) ≤ 7302250; decide⟩
    | false =>
      obtain ⟨⟨P1, F1, A1, J1⟩, hE⟩ := (by unfold e_SleepWork_hold; rw [h1, h2]; exact ⟨_, rfl⟩ : ∃ w, e_SleepWork_hold x_P x_F x_A x_J (xs 1) = some (0, w))
      obtain ⟨⟨F2, A2, J2⟩, hD⟩ := (by unfold d_hold d_in; rw [h1, v_gt2 h2]; exact ⟨_, rfl⟩ : ∃ w, d_hold 600 y_F y_A y_J (xs 1) = some (0, w))
      have C := t_e_SleepWork_hold (t := k_t xs 6) (lg := c_lg) (d := 39) (c := (340, 20126)) (B := x_f) (fun _ _ => rfl) hE
      obtain ⟨fs0, g0⟩ := z_g0 (c := (340, 20126)) (B := x_f) (P := x_P) (F := x_F) (A := x_A) (J := x_J)
      have C := z_C (P := P1) (F := F1) (A := A1) (J := J1) C
      have M := t_d_hold (t := k_t xs 6) (lg := c_lg) (d := 39) (c := (340, 20126)) (B := c_f x_f P1 F1 A1 J1) hD
      obtain ⟨fs1, g1⟩ := z_g1 (c := (340, 20126)) (f := c_f x_f P1 F1 A1 J1) (F := y_F) (A := y_A) (J := y_J)
      exact ⟨_, z_op29 g0 C g1 M, by show (340 : Nat) ≤ 600000; decide, by show (20126 : Nat) ≤ 7302250; decide⟩
set_option maxRecDepth 100000 in
theorem z_do30 : z_goal xs 1092 := by
  obtain ⟨⟨P1, F1, A1, J1⟩, hE⟩ := o_restore (A := x_A) (J := x_J) (x1 := xs 1)
  obtain ⟨⟨F2, A2, J2⟩, hD⟩ := p_restore (J := y_J) (x1 := xs 1) (n := 600)
  have C := t_e_SleepWork_restore (t := k_t xs 6) (lg := c_lg) (d := 39) (c := (340, 20126)) (B := x_f) (fun _ _ => rfl) hE
  obtain ⟨fs0, g0⟩ := z_g0 (c := (340, 20126)) (B := x_f) (P := x_P) (F := x_F) (A := x_A) (J := x_J)
  have C := z_C (P := P1) (F := F1) (A := A1) (J := J1) C
  have M := t_d_restore (t := k_t xs 6) (lg := c_lg) (d := 39) (c := (340, 20126)) (B := c_f x_f P1 F1 A1 J1) (fun _ => rfl) hD
  obtain ⟨fs1, g1⟩ := z_g1 (c := (340, 20126)) (f := c_f x_f P1 F1 A1 J1) (F := y_F) (A := y_A) (J := y_J)
  exact ⟨_, z_op30 g0 C g1 M, by show (340 : Nat) ≤ 600000; decide, by show (20126 : Nat) ≤ 7302250; decide⟩
set_option maxRecDepth 100000 in
theorem z_do31 : z_goal xs 1115 := by
  obtain ⟨v, hE, F2, A2, J2, hD⟩ := o_count (xs 1)
  have C := t_e_SleepWork_count (t := k_t xs 6) (lg := c_lg) (d := 38) (c := (340, 20126)) (B := x_f) hE
  obtain ⟨fs0, g0⟩ := z_g0 (c := (340, 20126)) (B := x_f) (P := x_P) (F := x_F) (A := x_A) (J := x_J)
  have C := z_C (P := x_P) (F := x_F) (A := x_A) (J := x_J) C
  have M := t_d_count (t := k_t xs 6) (lg := c_lg) (d := 37) (c := (340, 20126)) (B := c_f x_f x_P x_F x_A x_J) hD
  obtain ⟨fs1, g1⟩ := z_g1 (c := (340, 20126)) (f := c_f x_f x_P x_F x_A x_J) (F := y_F) (A := y_A) (J := y_J)
  exact ⟨_, z_op31 g0 C g1 M, by show (340 : Nat) ≤ 600000; decide, by show (20126 : Nat) ≤ 7302250; decide⟩
end ZD
theorem z_all {xs : Nat → Int32} : ∀ k, k < 32 → xs 0 &&& 31 = Int32.ofNat k → ∃ h', k_run (k_t xs 6) c_lg 41 271 18 [(0, .float 0), (1, .ref 0), (2, .ref 40960), (3, .int 0)] [] (c_h (340, 20126) x_f x_P x_F x_A x_J) (some (.int 1), h') ∧ h'.1.1 ≤ 600000 ∧ h'.1.2 ≤ 7302250 := by
  intro k hk hx
  match k, hk with
  | 0, _ => obtain ⟨h, hr, hb⟩ := z_do0 (xs := xs); exact ⟨h, z_long hx (by decide) hr, hb⟩
  | 1, _ => obtain ⟨h, hr, hb⟩ := z_do1 (xs := xs); exact ⟨h, z_long hx (by decide) hr, hb⟩
  | 2, _ => obtain ⟨h, hr, hb⟩ := z_do2 (xs := xs); exact ⟨h, z_long hx (by decide) hr, hb⟩
  | 3, _ => obtain ⟨h, hr, hb⟩ := z_do3 (xs := xs); exact ⟨h, z_long hx (by decide) hr, hb⟩
  | 4, _ => obtain ⟨h, hr, hb⟩ := z_do4 (xs := xs); exact ⟨h, z_long hx (by decide) hr, hb⟩
  | 5, _ => obtain ⟨h, hr, hb⟩ := z_do5 (xs := xs); exact ⟨h, z_long hx (by decide) hr, hb⟩
  | 6, _ => obtain ⟨h, hr, hb⟩ := z_do6 (xs := xs); exact ⟨h, z_long hx (by decide) hr, hb⟩
  | 7, _ => obtain ⟨h, hr, hb⟩ := z_do7 (xs := xs); exact ⟨h, z_long hx (by decide) hr, hb⟩
  | 8, _ => obtain ⟨h, hr, hb⟩ := z_do8 (xs := xs); exact ⟨h, z_long hx (by decide) hr, hb⟩
  | 9, _ => obtain ⟨h, hr, hb⟩ := z_do9 (xs := xs); exact ⟨h, z_long hx (by decide) hr, hb⟩
  | 10, _ => obtain ⟨h, hr, hb⟩ := z_do10 (xs := xs); exact ⟨h, z_long hx (by decide) hr, hb⟩
  | 11, _ => obtain ⟨h, hr, hb⟩ := z_do11 (xs := xs); exact ⟨h, z_long hx (by decide) hr, hb⟩
  | 12, _ => obtain ⟨h, hr, hb⟩ := z_do12 (xs := xs); exact ⟨h, z_long hx (by decide) hr, hb⟩
  | 13, _ => obtain ⟨h, hr, hb⟩ := z_do13 (xs := xs); exact ⟨h, z_long hx (by decide) hr, hb⟩
  | 14, _ => obtain ⟨h, hr, hb⟩ := z_do14 (xs := xs); exact ⟨h, z_long hx (by decide) hr, hb⟩
  | 15, _ => obtain ⟨h, hr, hb⟩ := z_do15 (xs := xs); exact ⟨h, z_long hx (by decide) hr, hb⟩
  | 16, _ => obtain ⟨h, hr, hb⟩ := z_do16 (xs := xs); exact ⟨h, z_long hx (by decide) hr, hb⟩
  | 17, _ => obtain ⟨h, hr, hb⟩ := z_do17 (xs := xs); exact ⟨h, z_long hx (by decide) hr, hb⟩
  | 18, _ => obtain ⟨h, hr, hb⟩ := z_do18 (xs := xs); exact ⟨h, z_long hx (by decide) hr, hb⟩
  | 19, _ => obtain ⟨h, hr, hb⟩ := z_do19 (xs := xs); exact ⟨h, z_long hx (by decide) hr, hb⟩
  | 20, _ => obtain ⟨h, hr, hb⟩ := z_do20 (xs := xs); exact ⟨h, z_long hx (by decide) hr, hb⟩
  | 21, _ => obtain ⟨h, hr, hb⟩ := z_do21 (xs := xs); exact ⟨h, z_long hx (by decide) hr, hb⟩
  | 22, _ => obtain ⟨h, hr, hb⟩ := z_do22 (xs := xs); exact ⟨h, z_long hx (by decide) hr, hb⟩
  | 23, _ => obtain ⟨h, hr, hb⟩ := z_do23 (xs := xs); exact ⟨h, z_long hx (by decide) hr, hb⟩
  | 24, _ => obtain ⟨h, hr, hb⟩ := z_do24 (xs := xs); exact ⟨h, z_long hx (by decide) hr, hb⟩
  | 25, _ => obtain ⟨h, hr, hb⟩ := z_do25 (xs := xs); exact ⟨h, z_long hx (by decide) hr, hb⟩
  | 26, _ => obtain ⟨h, hr, hb⟩ := z_do26 (xs := xs); exact ⟨h, z_long hx (by decide) hr, hb⟩
  | 27, _ => obtain ⟨h, hr, hb⟩ := z_do27 (xs := xs); exact ⟨h, z_long hx (by decide) hr, hb⟩
  | 28, _ => obtain ⟨h, hr, hb⟩ := z_do28 (xs := xs); exact ⟨h, z_long hx (by decide) hr, hb⟩
  | 29, _ => obtain ⟨h, hr, hb⟩ := z_do29 (xs := xs); exact ⟨h, z_long hx (by decide) hr, hb⟩
  | 30, _ => obtain ⟨h, hr, hb⟩ := z_do30 (xs := xs); exact ⟨h, z_long hx (by decide) hr, hb⟩
  | 31, _ => obtain ⟨h, hr, hb⟩ := z_do31 (xs := xs); exact ⟨h, z_long hx (by decide) hr, hb⟩
  | n + 32, hk => omega
/-- the law's run on a script of at most six ints -/
theorem z_law {xs : Nat → Int32} {L : Nat} (hL : L ≤ 6) : ∃ n h', g_exec (k_t xs L) k_tb c_lg k_df k_mt n 41 k_LAW 0 [(0, .float 0)] [] ((0, 0), fun _ => []) = some (some (.int 1), h') ∧ h'.1.1 ≤ 600000 ∧ h'.1.2 ≤ 7302250 := by
  by_cases h6 : L < 6
  · obtain ⟨n, hn⟩ := z_start (z_short (xs := xs) (d := 41) (h := ((340, 20126), x_f)) h6)
    exact ⟨n, _, hn, by show (340 : Nat) ≤ 600000; decide, by show (20126 : Nat) ≤ 7302250; decide⟩
  · have e : L = 6 := by omega
    subst e
    obtain ⟨k, hk, hx⟩ := z_and (xs 0)
    obtain ⟨h', hr, hb⟩ := z_all k hk hx
    rw [← x_H] at hr
    obtain ⟨n, hn⟩ := z_start hr
    exact ⟨n, h', hn, hb⟩
