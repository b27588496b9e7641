/-! methods checked (printed by wip/gen.py) -/
theorem k_ok129 : k_mok k_m129 := k_mok_of (own := "SleepWork") (name := "") false rfl (fun h => by cases h) k_pok11 (by decide +kernel)
theorem k_ok130 : k_mok k_m130 := k_mok_of (own := "SleepWork") (name := "") false rfl (fun h => by cases h) k_pok11 (by decide +kernel)
theorem k_ok131 : k_mok k_m131 := k_mok_of (own := "SleepWork") (name := "") false rfl (fun h => by cases h) k_pok11 (by decide +kernel)
theorem k_ok132 : k_mok k_m132 := k_mok_of (own := "SleepWork") (name := "") false rfl (fun h => by cases h) k_pok11 (by decide +kernel)
theorem k_ok133 : k_mok k_m133 := k_mok_of (own := "SleepWork") (name := "") false rfl (fun h => by cases h) k_pok11 (by decide +kernel)
theorem k_ok134 : k_mok k_m134 := k_mok_of (own := "SleepWork") (name := "") false rfl (fun h => by cases h) k_pok11 (by decide +kernel)
theorem k_ok135 : k_mok k_m135 := k_mok_of (own := "SleepWork") (name := "") false rfl (fun h => by cases h) k_pok11 (by decide +kernel)
theorem k_ok136 : k_mok k_m136 := k_mok_of (own := "SleepWork") (name := "") false rfl (fun h => by cases h) k_pok11 (by decide +kernel)
theorem k_ok137 : k_mok k_m137 := k_mok_of (own := "SleepWork") (name := "") false rfl (fun h => by cases h) k_pok11 (by decide +kernel)
theorem k_x138_0 : k_c138_0.all (g_chk prog_14_method_2_code true k_p12) = true := by decide +kernel
theorem k_x138_1 : k_c138_1.all (g_chk prog_14_method_2_code true k_p12) = true := by decide +kernel
theorem k_x138_2 : k_c138_2.all (g_chk prog_14_method_2_code true k_p12) = true := by decide +kernel
theorem k_x138_3 : k_c138_3.all (g_chk prog_14_method_2_code true k_p12) = true := by decide +kernel
