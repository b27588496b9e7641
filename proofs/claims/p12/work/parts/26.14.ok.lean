/-! methods checked (printed by wip/gen.py) -/
theorem k_x271_9 : k_c271_9.all (g_chk code false k_p21) = true := by decide +kernel
theorem k_x271_10 : k_c271_10.all (g_chk code false k_p21) = true := by decide +kernel
theorem k_x271_11 : k_c271_11.all (g_chk code false k_p21) = true := by decide +kernel
theorem k_x271_12 : k_c271_12.all (g_chk code false k_p21) = true := by decide +kernel
theorem k_x271_13 : k_c271_13.all (g_chk code false k_p21) = true := by decide +kernel
theorem k_ok271 : k_mok k_m271 := k_mok_of (own := "SleepWorkLaw") (name := "") false rfl (fun h => by cases h) k_pok21 (by simp only [k_c271, List.all_append, k_x271_0, k_x271_1, k_x271_2, k_x271_3, k_x271_4, k_x271_5, k_x271_6, k_x271_7, k_x271_8, k_x271_9, k_x271_10, k_x271_11, k_x271_12, k_x271_13, Bool.and_self])
