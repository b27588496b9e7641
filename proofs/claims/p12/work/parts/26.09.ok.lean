/-! methods checked (printed by wip/gen.py) -/
theorem k_ok175 : k_mok k_m175 := k_mok_of (own := "SleepWorkModel") (name := "") false rfl (fun h => by cases h) k_pok12 (by decide +kernel)
theorem k_ok176 : k_mok k_m176 := k_mok_of (own := "SleepWorkModel") (name := "") false rfl (fun h => by cases h) k_pok12 (by decide +kernel)
theorem k_ok177 : k_mok k_m177 := k_mok_of (own := "SleepWorkModel") (name := "") false rfl (fun h => by cases h) k_pok12 (by decide +kernel)
theorem k_ok178 : k_mok k_m178 := k_mok_of (own := "SleepWorkModel") (name := "") false rfl (fun h => by cases h) k_pok12 (by decide +kernel)
theorem k_ok179 : k_mok k_m179 := k_mok_of (own := "SleepWorkModel") (name := "") false rfl (fun h => by cases h) k_pok12 (by decide +kernel)
theorem k_ok180 : k_mok k_m180 := k_mok_of (own := "SleepWorkModel") (name := "") false rfl (fun h => by cases h) k_pok12 (by decide +kernel)
theorem k_ok181 : k_mok k_m181 := k_mok_of (own := "SleepWorkModel") (name := "") false rfl (fun h => by cases h) k_pok12 (by decide +kernel)
theorem k_ok182 : k_mok k_m182 := k_mok_of (own := "SleepWorkModel") (name := "") false rfl (fun h => by cases h) k_pok12 (by decide +kernel)
theorem k_ok183 : k_mok k_m183 := k_mok_of (own := "SleepWorkModel") (name := "") false rfl (fun h => by cases h) k_pok12 (by decide +kernel)
theorem k_ok184 : k_mok k_m184 := k_mok_of (own := "SleepWorkModel") (name := "") false rfl (fun h => by cases h) k_pok12 (by decide +kernel)
theorem k_ok185 : k_mok k_m185 := k_mok_of (own := "SleepWorkModel") (name := "") false rfl (fun h => by cases h) k_pok12 (by decide +kernel)
theorem k_ok186 : k_mok k_m186 := k_mok_of (own := "SleepWorkModel") (name := "") false rfl (fun h => by cases h) k_pok12 (by decide +kernel)
theorem k_ok187 : k_mok k_m187 := k_mok_of (own := "SleepWorkModel") (name := "") false rfl (fun h => by cases h) k_pok12 (by decide +kernel)
theorem k_ok188 : k_mok k_m188 := k_mok_of (own := "SleepWorkModel") (name := "") false rfl (fun h => by cases h) k_pok12 (by decide +kernel)
theorem k_ok189 : k_mok k_m189 := k_mok_of (own := "SleepWorkModel") (name := "") false rfl (fun h => by cases h) k_pok12 (by decide +kernel)
theorem k_ok190 : k_mok k_m190 := k_mok_of (own := "SleepWorkModel") (name := "") false rfl (fun h => by cases h) k_pok12 (by decide +kernel)
theorem k_ok191 : k_mok k_m191 := k_mok_of (own := "SleepWorkModel") (name := "") false rfl (fun h => by cases h) k_pok12 (by decide +kernel)
theorem k_x192_0 : k_c192_0.all (g_chk prog_14_method_56_code false k_p12) = true := by decide +kernel
theorem k_x192_1 : k_c192_1.all (g_chk prog_14_method_56_code false k_p12) = true := by decide +kernel
theorem k_x192_2 : k_c192_2.all (g_chk prog_14_method_56_code false k_p12) = true := by decide +kernel
theorem k_ok192 : k_mok k_m192 := k_mok_of (own := "SleepWorkModel") (name := "") false rfl (fun h => by cases h) k_pok12 (by simp only [k_c192, List.all_append, k_x192_0, k_x192_1, k_x192_2, Bool.and_self])
theorem k_ok193 : k_mok k_m193 := k_mok_of (own := "SleepWorkModel") (name := "") false rfl (fun h => by cases h) k_pok12 (by decide +kernel)
theorem k_x194_0 : k_c194_0.all (g_chk prog_14_method_58_code false k_p12) = true := by decide +kernel
theorem k_x194_1 : k_c194_1.all (g_chk prog_14_method_58_code false k_p12) = true := by decide +kernel
theorem k_x194_2 : k_c194_2.all (g_chk prog_14_method_58_code false k_p12) = true := by decide +kernel
