/-! feed, first -/
theorem x_map {β : Type} {o : Option (Int32 × β)} {v : Int32} (h : o.map (fun q => q.1) = some v) : ∃ w, o = some (v, w) := by
  obtain ⟨⟨u, w⟩, h1, h2⟩ := Option.map_eq_some_iff.mp h
  subst h2
  exact ⟨w, h1⟩
set_option maxRecDepth 100000 in
theorem o_feed0 {A : Nat → Nat → Nat → Int32} {J : Nat → Nat → Nat → Int64} {x1 x2 x3 x4 x5 : Int32} : (e_SleepWork_feed 10 x_P x_F A J x1 x2 x3 x4 x5).map (fun q => q.1) = some 20 := by rfl
set_option maxRecDepth 100000 in
theorem p_feed0 {J : Nat → Nat → Int64} {x1 x2 x3 x4 x5 : Int32} : (d_feed 10 y_F y_A J x1 x2 x3 x4 x5).map (fun q => q.1) = some 20 := by rfl
