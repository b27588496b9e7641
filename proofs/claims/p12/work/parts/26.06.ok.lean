/-! methods checked (printed by wip/gen.py) -/
theorem k_x138_4 : k_c138_4.all (g_chk prog_14_method_2_code true k_p12) = true := by decide +kernel
theorem k_x138_5 : k_c138_5.all (g_chk prog_14_method_2_code true k_p12) = true := by decide +kernel
theorem k_x138_6 : k_c138_6.all (g_chk prog_14_method_2_code true k_p12) = true := by decide +kernel
theorem k_x138_7 : k_c138_7.all (g_chk prog_14_method_2_code true k_p12) = true := by decide +kernel
theorem k_x138_8 : k_c138_8.all (g_chk prog_14_method_2_code true k_p12) = true := by decide +kernel
theorem k_ok138 : k_mok k_m138 := k_mok_of (own := "SleepWorkModel") (name := "") true rfl (fun _ => rfl) k_pok12 (by simp only [k_c138, List.all_append, k_x138_0, k_x138_1, k_x138_2, k_x138_3, k_x138_4, k_x138_5, k_x138_6, k_x138_7, k_x138_8, Bool.and_self])
