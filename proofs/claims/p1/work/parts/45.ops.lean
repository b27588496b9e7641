/-! first calls on a fresh object: those that are refused, or look at one field alone -/
noncomputable def x_A : Nat → Nat → Nat → Int32 := fun r o => x_rI (x_d (x_f r) o)
noncomputable def x_J : Nat → Nat → Nat → Int64 := fun r o => x_rJ (x_d (x_f r) o)
noncomputable def y_J : Nat → Nat → Int64 := fun o => x_rJ (x_d (x_f 40) o)
theorem v_ge {x : Int32} (h : g_cnd .lt x 0 = false) : g_cnd .ge x 0 = true := decide_eq_true (Int32.not_lt.mp (of_decide_eq_false h))
theorem v_gt {x : Int32} (h : g_cnd .lt x 0 = false) : g_cnd .gt x (0 - 1) = true := by
  have h1 := Int32.not_lt.mp (of_decide_eq_false h)
  refine decide_eq_true ?_
  rw [Int32.lt_iff_toInt_lt]
  have h2 := Int32.le_iff_toInt_le.mp h1
  have h3 : (0 - 1 : Int32).toInt = -1 := by decide
  have h4 : (0 : Int32).toInt = 0 := by decide
  omega
theorem v_eq0 {x : Int32} (h : g_cnd .lt x 0 = false) (h' : g_cnd .gt x 0 = false) : x = 0 := by
  have h1 := Int32.not_lt.mp (of_decide_eq_false h)
  have h2 := Int32.not_lt.mp (of_decide_eq_false h')
  exact Int32.le_antisymm h2 h1
theorem v_012 {x : Int32} (h : g_cnd .lt x 0 = false) (h' : g_cnd .lt x 3 = true) : x = 0 ∨ x = 1 ∨ x = 2 := by
  have h1 := Int32.le_iff_toInt_le.mp (Int32.not_lt.mp (of_decide_eq_false h))
  have h2 := Int32.lt_iff_toInt_lt.mp (of_decide_eq_true h')
  have h4 : (0 : Int32).toInt = 0 := by decide
  have h5 : (3 : Int32).toInt = 3 := by decide
  rcases (show x.toInt = 0 ∨ x.toInt = 1 ∨ x.toInt = 2 by omega) with h | h | h
  · exact .inl (Int32.toInt_inj.mp (h.trans (by decide)))
  · exact .inr (.inl (Int32.toInt_inj.mp (h.trans (by decide))))
  · exact .inr (.inr (Int32.toInt_inj.mp (h.trans (by decide))))
theorem v_01 {x : Int32} (h : g_cnd .lt x 0 = false) (h' : g_cnd .gt x 1 = false) : x = 0 ∨ x = 1 := by
  have h1 := Int32.le_iff_toInt_le.mp (Int32.not_lt.mp (of_decide_eq_false h))
  have h2 := Int32.le_iff_toInt_le.mp (Int32.not_lt.mp (of_decide_eq_false h'))
  have h4 : (0 : Int32).toInt = 0 := by decide
  have h5 : (1 : Int32).toInt = 1 := by decide
  rcases (show x.toInt = 0 ∨ x.toInt = 1 by omega) with h | h
  · exact .inl (Int32.toInt_inj.mp (h.trans (by decide)))
  · exact .inr (Int32.toInt_inj.mp (h.trans (by decide)))
section VC
variable {A : Nat → Nat → Nat → Int32} {J : Nat → Nat → Nat → Int64} {x1 x2 x3 : Int32} {n : Nat}
theorem v_P : c_chk 6 (x_P 0 8) = some 27 := rfl
theorem v_hs : e_House_hasStep x_P x_F A J 27 x1 x2 = some 0 := by
  unfold e_House_hasStep
  cases h : g_cnd .lt x1 0 with
  | false =>
    rw [show g_cnd .ge x1 (x_F 27 16) = true from v_ge h]
    rfl
  | true => rfl
theorem v_man : e_SleepWork_isMan x_P x_F A J x1 = some 0 := by
  unfold e_SleepWork_isMan
  cases h : g_cnd .lt x1 0 with
  | false =>
    rw [v_P, Option.bind_some, show g_cnd .ge x1 (x_F 27 17) = true from v_ge h]
    rfl
  | true => rfl
theorem v_tool : e_SleepWork_isTool x_P x_F A J x1 = some 0 := by
  unfold e_SleepWork_isTool
  cases h : g_cnd .lt x1 0 with
  | false =>
    rw [v_P, Option.bind_some, show g_cnd .ge x1 (x_F 27 15) = true from v_ge h]
    rfl
  | true => rfl
theorem v_room : e_SleepWork_isRoom x_P x_F A J x1 = some 0 := by
  unfold e_SleepWork_isRoom
  cases h : g_cnd .lt x1 0 with
  | false =>
    rw [v_P, Option.bind_some, show g_cnd .ge x1 (x_F 27 13) = true from v_ge h]
    rfl
  | true => rfl
theorem v_two : e_SleepWork_areTwoMen x_P x_F A J x1 x2 = some 0 := by
  unfold e_SleepWork_areTwoMen
  rw [v_man]
  rfl
theorem v_known (h : x1 ≠ 0) : e_SleepWork_isKnownBy x_P x_F A J x1 = some 0 := by
  unfold e_SleepWork_isKnownBy
  cases h1 : g_cnd .lt x1 0 with
  | false =>
    cases h2 : g_cnd .gt x1 0 with
    | false => exact absurd (v_eq0 h1 h2) h
    | true =>
      rw [show g_cnd .gt x1 (x_F 25 2) = true from h2]
      rfl
  | true => rfl
theorem o_task : e_SleepWork_task n x_P x_F A J x1 x2 = some (-1) := by
  unfold e_SleepWork_task
  cases h : g_cnd .lt x1 0 with
  | false =>
    rw [v_P, Option.bind_some, show g_cnd .lt x1 (x_F 27 16) = false from h]
    rfl
  | true => rfl
theorem o_step : e_SleepWork_step x_P x_F A J x1 x2 x3 = some (-1) := by
  unfold e_SleepWork_step
  rw [v_P, Option.bind_some, v_hs]
  rfl
theorem o_man : e_SleepWork_man x_P x_F A J x1 x2 = some (-1) := by
  unfold e_SleepWork_man
  rw [v_man]
  rfl
theorem o_tool : e_SleepWork_tool x_P x_F A J x1 = some (-1) := by
  unfold e_SleepWork_tool
  rw [v_tool]
  rfl
theorem o_way : ∃ w, e_SleepWork_way n x_P x_F A J x1 x2 = some (-1, w) := by
  unfold e_SleepWork_way
  rw [v_room]
  exact ⟨_, rfl⟩
theorem o_leave : ∃ w, e_SleepWork_leave x_P x_F A J x1 x2 x3 = some (0, w) := by
  unfold e_SleepWork_leave
  rw [v_man]
  exact ⟨_, rfl⟩
theorem o_work : ∃ w, e_SleepWork_work x_P x_F A J x1 x2 = some (0, w) := by
  unfold e_SleepWork_work
  rw [v_P, Option.bind_some, v_hs]
  exact ⟨_, rfl⟩
theorem o_lay : ∃ w, e_SleepWork_lay x_P x_F A J x1 x2 = some (0, w) := by
  unfold e_SleepWork_lay
  rw [v_tool]
  exact ⟨_, rfl⟩
theorem o_give : ∃ w, e_SleepWork_give x_P x_F A J x1 x2 = some (0, w) := by
  unfold e_SleepWork_give
  rw [v_tool]
  exact ⟨_, rfl⟩
theorem o_bar : ∃ w, e_SleepWork_bar x_P x_F A J x1 x2 = some (0, w) := by
  unfold e_SleepWork_bar
  cases h : g_cnd .lt x1 0 with
  | false =>
    rw [v_P, Option.bind_some, show g_cnd .lt x1 (x_F 27 14) = false from h]
    exact ⟨_, rfl⟩
  | true => exact ⟨_, rfl⟩
theorem o_best : ∃ w, e_SleepWork_best n x_P x_F A J x1 x2 = some (-1, w) := by
  unfold e_SleepWork_best
  rw [v_man]
  exact ⟨_, rfl⟩
theorem o_bestOfTwo : ∃ w, e_SleepWork_bestOfTwo n x_P x_F A J x1 x2 x3 = some (-1, w) := by
  unfold e_SleepWork_bestOfTwo
  rw [v_two]
  exact ⟨_, rfl⟩
theorem o_hire : ∃ w, e_SleepWork_hire n x_P x_F A J x1 = some (-1000000, w) := by
  unfold e_SleepWork_hire
  rw [v_man]
  exact ⟨_, rfl⟩
theorem o_hide : ∃ w, e_SleepWork_hide n x_P x_F A J x1 x2 = some (-1, w) := by
  unfold e_SleepWork_hide
  rw [v_tool]
  exact ⟨_, rfl⟩
theorem o_where : ∃ w, e_SleepWork_where n x_P x_F A J x1 x2 = some (-1, w) := by
  unfold e_SleepWork_where
  rw [v_man]
  exact ⟨_, rfl⟩
theorem o_strokes : ∃ w, e_SleepWork_strokes n x_P x_F A J x1 x2 = some (-1, w) := by
  unfold e_SleepWork_strokes
  rw [v_man]
  exact ⟨_, rfl⟩
theorem o_tell : ∃ w, e_SleepWork_tell x_P x_F A J x1 x2 x3 = some (-1, w) := by
  unfold e_SleepWork_tell
  rw [v_P, Option.bind_some, v_hs]
  exact ⟨_, rfl⟩
theorem o_fits : ∃ w, e_SleepWork_fits n x_P x_F A J x1 x2 x3 = some (-1, w) := by
  unfold e_SleepWork_fits
  rw [v_man]
  exact ⟨_, rfl⟩
theorem o_pairs : ∃ w, e_SleepWork_pairs n x_P x_F A J x1 x2 x3 = some (-1, w) := by
  unfold e_SleepWork_pairs
  rw [v_two]
  exact ⟨_, rfl⟩
theorem o_suspects (h : x1 ≠ 0) : ∃ w, e_SleepWork_suspects n x_P x_F A J x1 = some (-1, w) := by
  unfold e_SleepWork_suspects
  rw [v_known h]
  exact ⟨_, rfl⟩
theorem o_place : e_SleepWork_place x_P x_F A J = some (-1) := rfl
theorem o_undo : ∃ w, e_SleepWork_undo x_P x_F A J = some (0, w) := ⟨_, rfl⟩
theorem o_forget : ∃ w, e_SleepWork_forget x_P x_F A J = some (0, w) := ⟨_, rfl⟩
theorem o_back : ∃ w, e_SleepWork_back x_P x_F A J x1 = some (if x1 = 0 then 0 else -1, w) := by
  unfold e_SleepWork_back
  cases h1 : g_cnd .lt x1 0 with
  | false =>
    by_cases h : x1 = 0
    · subst h
      exact ⟨_, rfl⟩
    · rw [if_neg h, show g_cnd .le x1 (x_F 1 1) = false from decide_eq_false (fun h2 => h (Int32.le_antisymm h2 (Int32.not_lt.mp (of_decide_eq_false h1))))]
      exact ⟨_, rfl⟩
  | true =>
    rw [if_neg (fun e => by subst e; exact absurd h1 (by decide))]
    exact ⟨_, rfl⟩
theorem v_and0 (y : Int32) : g_cnd .ne ((x_F 0 10) &&& y) 0 = false := by
  have : (x_F 0 10) &&& y = 0 := Int32.zero_and
  rw [this]
  rfl
theorem o_restore : ∃ w, e_SleepWork_restore x_P x_F A J x1 = some (0, w) := by
  unfold e_SleepWork_restore
  cases g_cnd .lt x1 0 with
  | false =>
    cases g_cnd .ge x1 3 with
    | false =>
      rw [v_and0]
      exact ⟨_, rfl⟩
    | true => exact ⟨_, rfl⟩
  | true => exact ⟨_, rfl⟩
end VC
section VM
variable {J : Nat → Nat → Int64} {x1 x2 x3 : Int32} {n : Nat}
theorem w_in : d_in x1 0 (0 - 1) = some 0 := by
  unfold d_in
  cases h : g_cnd .lt x1 0 with
  | false =>
    rw [v_gt h]
    rfl
  | true => rfl
theorem w_task : d_isTask y_F y_A J x1 = some 0 := by
  unfold d_isTask
  rw [show d_tasksNow y_F y_A J = some 0 from rfl, Option.bind_some, w_in]
  rfl
theorem w_man : d_isMan y_F y_A J x1 = some 0 := by
  unfold d_isMan
  rw [show d_menNow y_F y_A J = some 0 from rfl, Option.bind_some, w_in]
  rfl
theorem w_tool : d_isTool y_F y_A J x1 = some 0 := by
  unfold d_isTool
  rw [show m_ld (y_A 17) 2 (y_F 18) = some 0 from rfl, Option.bind_some, w_in]
  rfl
theorem w_room : d_isRoom y_F y_A J x1 = some 0 := by
  unfold d_isRoom
  rw [show m_ld (y_A 11) 2 (y_F 18) = some 0 from rfl, Option.bind_some, w_in]
  rfl
theorem w_step : d_isStep y_F y_A J x1 x2 = some 0 := by
  unfold d_isStep
  rw [w_task]
  rfl
theorem p_task : ∃ w, d_task n y_F y_A J x1 x2 = some (-1, w) := by
  unfold d_task
  rw [w_task]
  exact ⟨_, rfl⟩
theorem p_step : d_step y_F y_A J x1 x2 x3 = some (-1) := by
  unfold d_step
  rw [w_step]
  rfl
theorem p_man : d_man y_F y_A J x1 x2 = some (-1) := by
  unfold d_man
  rw [w_man]
  rfl
theorem p_tool : d_tool y_F y_A J x1 = some (-1) := by
  unfold d_tool
  rw [w_tool]
  rfl
theorem p_way : ∃ w, d_way n y_F y_A J x1 x2 = some (-1, w) := by
  unfold d_way
  rw [w_room]
  exact ⟨_, rfl⟩
theorem p_leave : ∃ w, d_leave y_F y_A J x1 x2 x3 = some (0, w) := by
  unfold d_leave
  rw [w_man]
  exact ⟨_, rfl⟩
theorem p_work : ∃ w, d_work n y_F y_A J x1 x2 = some (0, w) := by
  unfold d_work
  rw [w_step]
  exact ⟨_, rfl⟩
theorem p_lay : ∃ w, d_lay y_F y_A J x1 x2 = some (0, w) := by
  unfold d_lay
  rw [w_tool]
  exact ⟨_, rfl⟩
theorem p_give : ∃ w, d_give y_F y_A J x1 x2 = some (0, w) := by
  unfold d_give
  rw [w_tool]
  exact ⟨_, rfl⟩
theorem p_bar : ∃ w, d_bar y_F y_A J x1 x2 = some (0, w) := by
  unfold d_bar
  rw [show m_ld (y_A 12) 2 (y_F 18) = some 0 from rfl, Option.bind_some, w_in]
  exact ⟨_, rfl⟩
theorem p_best : ∃ w, d_best n y_F y_A J x1 x2 = some (-1, w) := by
  unfold d_best
  rw [w_man]
  exact ⟨_, rfl⟩
theorem p_bestOfTwo : ∃ w, d_bestOfTwo n y_F y_A J x1 x2 x3 = some (-1, w) := by
  unfold d_bestOfTwo
  rw [w_man]
  exact ⟨_, rfl⟩
theorem p_hire : ∃ w, d_hire n y_F y_A J x1 = some (-1000000, w) := by
  unfold d_hire
  rw [w_man]
  exact ⟨_, rfl⟩
theorem p_hide : ∃ w, d_hide n y_F y_A J x1 x2 = some (-1, w) := by
  unfold d_hide
  rw [w_tool]
  exact ⟨_, rfl⟩
theorem p_where : ∃ w, d_where n y_F y_A J x1 x2 = some (-1, w) := by
  unfold d_where
  rw [w_man]
  exact ⟨_, rfl⟩
theorem p_strokes : ∃ w, d_strokes n y_F y_A J x1 x2 = some (-1, w) := by
  unfold d_strokes
  rw [w_man]
  exact ⟨_, rfl⟩
theorem p_tell : ∃ w, d_tell3 y_F y_A J x1 x2 x3 = some (-1, w) := by
  unfold d_tell3
  rw [w_step]
  exact ⟨_, rfl⟩
theorem p_fits : ∃ w, d_fits n y_F y_A J x1 x2 x3 = some (-1, w) := by
  unfold d_fits
  rw [w_man]
  exact ⟨_, rfl⟩
theorem p_pairs : ∃ w, d_pairs n y_F y_A J x1 x2 x3 = some (-1, w) := by
  unfold d_pairs
  rw [w_man]
  exact ⟨_, rfl⟩
theorem p_suspects (h : x1 ≠ 0) : ∃ w, d_suspects n y_F y_A J x1 = some (-1, w) := by
  unfold d_suspects d_in
  cases h1 : g_cnd .lt x1 0 with
  | false =>
    cases h2 : g_cnd .gt x1 0 with
    | false => exact absurd (v_eq0 h1 h2) h
    | true =>
      rw [show g_cnd .gt x1 (y_F 77) = true from h2]
      exact ⟨_, rfl⟩
  | true => exact ⟨_, rfl⟩
theorem p_place : d_place y_F y_A J = some (-1) := rfl
theorem p_undo : ∃ w, d_undo n y_F y_A J = some (0, w) := ⟨_, rfl⟩
theorem p_forget : ∃ w, d_forget y_F y_A J = some (0, w) := ⟨_, rfl⟩
theorem p_back : ∃ w, d_back y_F y_A J x1 = some (if x1 = 0 then 0 else -1, w) := by
  unfold d_back
  cases h1 : g_cnd .lt x1 0 with
  | false =>
    by_cases h : x1 = 0
    · subst h
      exact ⟨_, rfl⟩
    · rw [if_neg h, show g_cnd .le x1 (y_F 2) = false from decide_eq_false (fun h2 => h (Int32.le_antisymm h2 (Int32.not_lt.mp (of_decide_eq_false h1))))]
      exact ⟨_, rfl⟩
  | true =>
    rw [if_neg (fun e => by subst e; exact absurd h1 (by decide))]
    exact ⟨_, rfl⟩
theorem p_restore : ∃ w, d_restore n y_F y_A J x1 = some (0, w) := by
  unfold d_restore d_in
  cases h1 : g_cnd .lt x1 0 with
  | false =>
    cases h2 : g_cnd .gt x1 2 with
    | false =>
      have h3 : g_cnd .lt x1 3 = true := by
        refine decide_eq_true ?_
        have h2 := Int32.le_iff_toInt_le.mp (Int32.not_lt.mp (of_decide_eq_false h2))
        rw [Int32.lt_iff_toInt_lt]
        have h4 : (2 : Int32).toInt = 2 := by decide
        have h5 : (3 : Int32).toInt = 3 := by decide
        omega
      rcases v_012 h1 h3 with rfl | rfl | rfl <;> exact ⟨_, rfl⟩
    | true => exact ⟨_, rfl⟩
  | true => exact ⟨_, rfl⟩
end VM
