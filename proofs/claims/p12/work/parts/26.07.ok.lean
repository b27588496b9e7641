/-! methods checked (printed by wip/gen.py) -/
theorem k_ok139 : k_mok k_m139 := k_mok_of (own := "SleepWorkModel") (name := "") false rfl (fun h => by cases h) k_pok12 (by decide +kernel)
theorem k_ok140 : k_mok k_m140 := k_mok_of (own := "SleepWorkModel") (name := "") false rfl (fun h => by cases h) k_pok12 (by decide +kernel)
theorem k_ok141 : k_mok k_m141 := k_mok_of (own := "SleepWorkModel") (name := "") false rfl (fun h => by cases h) k_pok12 (by decide +kernel)
theorem k_ok142 : k_mok k_m142 := k_mok_of (own := "SleepWorkModel") (name := "") false rfl (fun h => by cases h) k_pok12 (by decide +kernel)
theorem k_ok143 : k_mok k_m143 := k_mok_of (own := "SleepWorkModel") (name := "") false rfl (fun h => by cases h) k_pok12 (by decide +kernel)
theorem k_ok144 : k_mok k_m144 := k_mok_of (own := "SleepWorkModel") (name := "") false rfl (fun h => by cases h) k_pok12 (by decide +kernel)
theorem k_ok145 : k_mok k_m145 := k_mok_of (own := "SleepWorkModel") (name := "") false rfl (fun h => by cases h) k_pok12 (by decide +kernel)
theorem k_ok146 : k_mok k_m146 := k_mok_of (own := "SleepWorkModel") (name := "") false rfl (fun h => by cases h) k_pok12 (by decide +kernel)
theorem k_ok147 : k_mok k_m147 := k_mok_of (own := "SleepWorkModel") (name := "") false rfl (fun h => by cases h) k_pok12 (by decide +kernel)
theorem k_x148_0 : k_c148_0.all (g_chk prog_14_method_12_code false k_p12) = true := by decide +kernel
theorem k_x148_1 : k_c148_1.all (g_chk prog_14_method_12_code false k_p12) = true := by decide +kernel
theorem k_x148_2 : k_c148_2.all (g_chk prog_14_method_12_code false k_p12) = true := by decide +kernel
theorem k_ok148 : k_mok k_m148 := k_mok_of (own := "SleepWorkModel") (name := "") false rfl (fun h => by cases h) k_pok12 (by simp only [k_c148, List.all_append, k_x148_0, k_x148_1, k_x148_2, Bool.and_self])
theorem k_ok149 : k_mok k_m149 := k_mok_of (own := "SleepWorkModel") (name := "") false rfl (fun h => by cases h) k_pok12 (by decide +kernel)
theorem k_ok150 : k_mok k_m150 := k_mok_of (own := "SleepWorkModel") (name := "") false rfl (fun h => by cases h) k_pok12 (by decide +kernel)
theorem k_ok151 : k_mok k_m151 := k_mok_of (own := "SleepWorkModel") (name := "") false rfl (fun h => by cases h) k_pok12 (by decide +kernel)
theorem k_ok152 : k_mok k_m152 := k_mok_of (own := "SleepWorkModel") (name := "") false rfl (fun h => by cases h) k_pok12 (by decide +kernel)
theorem k_ok153 : k_mok k_m153 := k_mok_of (own := "SleepWorkModel") (name := "") false rfl (fun h => by cases h) k_pok12 (by decide +kernel)
theorem k_ok154 : k_mok k_m154 := k_mok_of (own := "SleepWorkModel") (name := "") false rfl (fun h => by cases h) k_pok12 (by decide +kernel)
theorem k_x155_0 : k_c155_0.all (g_chk prog_14_method_19_code false k_p12) = true := by decide +kernel
theorem k_x155_1 : k_c155_1.all (g_chk prog_14_method_19_code false k_p12) = true := by decide +kernel
theorem k_x155_2 : k_c155_2.all (g_chk prog_14_method_19_code false k_p12) = true := by decide +kernel
theorem k_x155_3 : k_c155_3.all (g_chk prog_14_method_19_code false k_p12) = true := by decide +kernel
theorem k_ok155 : k_mok k_m155 := k_mok_of (own := "SleepWorkModel") (name := "") false rfl (fun h => by cases h) k_pok12 (by simp only [k_c155, List.all_append, k_x155_0, k_x155_1, k_x155_2, k_x155_3, Bool.and_self])
theorem k_ok156 : k_mok k_m156 := k_mok_of (own := "SleepWorkModel") (name := "") false rfl (fun h => by cases h) k_pok12 (by decide +kernel)
theorem k_ok157 : k_mok k_m157 := k_mok_of (own := "SleepWorkModel") (name := "") false rfl (fun h => by cases h) k_pok12 (by decide +kernel)
theorem k_ok158 : k_mok k_m158 := k_mok_of (own := "SleepWorkModel") (name := "") false rfl (fun h => by cases h) k_pok12 (by decide +kernel)
theorem k_ok159 : k_mok k_m159 := k_mok_of (own := "SleepWorkModel") (name := "") false rfl (fun h => by cases h) k_pok12 (by decide +kernel)
theorem k_ok160 : k_mok k_m160 := k_mok_of (own := "SleepWorkModel") (name := "") false rfl (fun h => by cases h) k_pok12 (by decide +kernel)
