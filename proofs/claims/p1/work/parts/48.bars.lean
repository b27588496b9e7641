/-! bars, first: the class's makes a row, so its code is run by the kernel -/
theorem x_H : ((340, 20126), x_f) = c_h (340, 20126) x_f x_P x_F x_A x_J := x_heap x_f_4
theorem x_40 : x_f 40 = m_cells y_F y_A y_J := x_f_4.2.2.2.2.2.2.2
noncomputable def x_hb : gH := c_h (340, 20126) (va_up (va_up x_f 39 []) 40 (m_cells y_F y_A y_J)) x_P x_F x_A x_J
theorem x_hb_eq : c_h (340, 20126) x_f x_P x_F x_A x_J = x_hb := by
  have e : va_up (va_up x_f 39 []) 40 (m_cells y_F y_A y_J) = x_f := by
    funext r
    unfold va_up
    by_cases h : r = 40
    · rw [if_pos h, h]; exact x_40.symm
    · rw [if_neg h]
      by_cases h' : r = 39
      · rw [if_pos h', h']; exact x_f_4.1.symm
      · rw [if_neg h']
  unfold x_hb
  rw [e]
def x_kb (v : Int32) : Option (Option Value × gH) → Bool
  | some (some (.int u), h) => decide (u = v) && decide (h.1 = (341, 20128)) && x_ses (h.2 40) (m_cells y_F y_A (fun _ _ => 0)) && y_L.all (fun q => (List.range q.2).all fun i => decide (x_rI (x_d (h.2 40) q.1) i = y_A q.1 i))
  | _ => false
noncomputable def x_rb (x : Int32) : Option (Option Value × gH) := n_exec x_t c_lg 4000 40 127 0 [(0, .ref 0), (1, .int x)] [] x_hb
theorem x_okb0 : x_kb 0 (x_rb 0) = true := by decide +kernel
theorem x_okb1 : x_kb 0 (x_rb 1) = true := by decide +kernel
theorem x_qb : q_N x_hb := by
  rw [← x_hb_eq, ← x_H]
  exact x_f_4.2.2.2.2.2.2.1
theorem x_exb {v : Int32} {o : Option (Option Value × gH)} (hk : x_kb v o = true) (hq : ∀ u h, o = some (u, h) → q_N h) : ∃ f : Nat → List gE, o = some (some (.int v), ((341, 20128), f)) ∧ f 40 = m_cells y_F y_A (fun o => x_rJ (x_d (f 40) o)) := by
  unfold x_kb at hk
  split at hk
  next u h =>
    have hq := hq _ h rfl
    obtain ⟨c, f⟩ := h
    simp only [Bool.and_eq_true] at hk
    obtain ⟨⟨⟨k0, k1⟩, k9⟩, k10⟩ := hk
    have k0 : u = _ := of_decide_eq_true k0
    have k1 : c = _ := of_decide_eq_true k1
    subst k0
    subst k1
    refine ⟨f, rfl, ?_⟩
    refine x_lm k9 (fun q hm i hi => ?_) (hq 40)
    exact of_decide_eq_true (List.all_eq_true.mp (List.all_eq_true.mp k10 q hm) i (List.mem_range.mpr hi))
  next => cases hk
theorem x_b0 : ∃ f : Nat → List gE, x_rb 0 = some (some (.int 0), ((341, 20128), f)) ∧ f 40 = m_cells y_F y_A (fun o => x_rJ (x_d (f 40) o)) := x_exb x_okb0 (fun _ _ hh => q_run (n_run (t' := x_t) rfl rfl _ _ _ _ _ _ _ _ hh) x_qb)
theorem x_b1 : ∃ f : Nat → List gE, x_rb 1 = some (some (.int 0), ((341, 20128), f)) ∧ f 40 = m_cells y_F y_A (fun o => x_rJ (x_d (f 40) o)) := x_exb x_okb1 (fun _ _ hh => q_run (n_run (t' := x_t) rfl rfl _ _ _ _ _ _ _ _ hh) x_qb)
noncomputable def x_fb0 : Nat → List gE := Classical.choose x_b0
noncomputable def x_fb1 : Nat → List gE := Classical.choose x_b1
noncomputable def y_Jb0 : Nat → Nat → Int64 := fun o => x_rJ (x_d (x_fb0 40) o)
noncomputable def y_Jb1 : Nat → Nat → Int64 := fun o => x_rJ (x_d (x_fb1 40) o)
theorem h_dbars0 : x_is (d_bars 600 y_F y_A y_Jb0 0) 0 = true := by decide +kernel
theorem h_dbars1 : x_is (d_bars 600 y_F y_A y_Jb1 1) 0 = true := by decide +kernel
theorem v_lt2 {x : Int32} (h0 : x ≠ 0) (h1 : x ≠ 1) (h : g_cnd .lt x 0 = false) : g_cnd .gt x 1 = true := by
  cases h2 : g_cnd .gt x 1 with
  | true => rfl
  | false =>
    rcases v_01 h h2 with h3 | h3
    · exact absurd h3 h0
    · exact absurd h3 h1
theorem p_bars {J : Nat → Nat → Int64} {x1 : Int32} {n : Nat} (h0 : x1 ≠ 0) (h1 : x1 ≠ 1) : ∃ w, d_bars n y_F y_A J x1 = some (-1, w) := by
  unfold d_bars d_in
  cases h : g_cnd .lt x1 0 with
  | false =>
    rw [v_lt2 h0 h1 h]
    exact ⟨_, rfl⟩
  | true => exact ⟨_, rfl⟩
theorem o_bars {t : gT} {lg : Nat → Nat} {d : Nat} {x1 : Int32} {h : gH} (h0 : x1 ≠ 0) (h1 : x1 ≠ 1) : k_run t lg d 127 0 [(0, .ref 0), (1, .int x1)] [] h (some (.int (-1)), h) := by
  have e : k_run t lg d 127 9 [(0, .ref 0), (1, .int x1)] [] h (some (.int (-1)), h) := by
    refine k_runB (pc' := 10) (loc' := [(0, .ref 0), (1, .int x1)]) (st' := [.int (-1)]) 1 rfl ?_
    exact k_iret rfl rfl
  refine k_runB (pc' := 1) (loc' := [(0, .ref 0), (1, .int x1)]) (st' := [.int x1]) 1 rfl ?_
  refine k_if rfl (fun _ => e) (fun hc => ?_)
  refine k_runB (pc' := 6) (loc' := [(0, .ref 0), (1, .int x1)]) (st' := [.int 1, .int x1]) 2 rfl ?_
  refine k_ic rfl (fun hc2 => ?_) (fun _ => e)
  exact absurd (of_decide_eq_true hc2) (Int32.not_le.mpr (of_decide_eq_true (v_lt2 h0 h1 hc)))
