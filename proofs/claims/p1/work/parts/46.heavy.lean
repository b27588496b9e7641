/-! first calls on a fresh object that run: found by the kernel -/
def x_is {β : Type} (o : Option (Int32 × β)) (v : Int32) : Bool := match o with
  | some (u, _) => decide (u = v)
  | none => false
def x_iv (o : Option Int32) (v : Int32) : Bool := match o with
  | some u => decide (u = v)
  | none => false
theorem x_is_ex {β : Type} {o : Option (Int32 × β)} {v : Int32} (h : x_is o v = true) : ∃ w, o = some (v, w) := by
  unfold x_is at h
  split at h
  next u w => rw [of_decide_eq_true h]; exact ⟨w, rfl⟩
  next => cases h
theorem x_iv_eq {o : Option Int32} {v : Int32} (h : x_iv o v = true) : o = some v := by
  unfold x_iv at h
  split at h
  next u => rw [of_decide_eq_true h]
  next => cases h
theorem h_read : x_is (e_SleepWork_read 600 x_P x_F x_A x_J) 0 = true := by decide +kernel
theorem h_night : x_is (e_SleepWork_night 600 x_P x_F x_A x_J) 0 = true := by decide +kernel
theorem h_gain : x_is (e_SleepWork_gain 600 x_P x_F x_A x_J) 0 = true := by decide +kernel
theorem h_susp : x_is (e_SleepWork_suspects 600 x_P x_F x_A x_J 0) 0 = true := by decide +kernel
theorem h_hold : (x_is (e_SleepWork_hold x_P x_F x_A x_J 0) 1 && x_is (e_SleepWork_hold x_P x_F x_A x_J 1) 1 && x_is (e_SleepWork_hold x_P x_F x_A x_J 2) 1) = true := by decide +kernel
theorem h_dhold : (x_is (d_hold 600 y_F y_A y_J 0) 1 && x_is (d_hold 600 y_F y_A y_J 1) 1 && x_is (d_hold 600 y_F y_A y_J 2) 1) = true := by decide +kernel
theorem h_dsusp : x_is (d_suspects 600 y_F y_A y_J 0) 0 = true := by decide +kernel
theorem h_dread : x_is (d_read 600 y_F y_A y_J) 0 = true := by decide +kernel
theorem h_dgain : x_is (d_gain 600 y_F y_A y_J) 0 = true := by decide +kernel
theorem h_dnight : x_is (d_night 600 y_F y_A y_J) 0 = true := by decide +kernel
def h_cv : List (Int32 × Int32) := [(0, 0), (1, 0), (2, 0), (3, 0), (4, 0), (5, 480), (6, 0), (7, 0), (8, 0), (9, 0), (10, 0), (11, 0), (12, 0)]
theorem h_count : h_cv.all (fun q => x_iv (e_SleepWork_count 600 x_P x_F x_A x_J q.1) q.2 && x_is (d_count 600 y_F y_A y_J q.1) q.2) = true := by decide +kernel
