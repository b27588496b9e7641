/-! methods checked (printed by wip/gen.py) -/
theorem k_x271_3 : k_c271_3.all (g_chk code false k_p21) = true := by decide +kernel
theorem k_x271_4 : k_c271_4.all (g_chk code false k_p21) = true := by decide +kernel
theorem k_x271_5 : k_c271_5.all (g_chk code false k_p21) = true := by decide +kernel
theorem k_x271_6 : k_c271_6.all (g_chk code false k_p21) = true := by decide +kernel
theorem k_x271_7 : k_c271_7.all (g_chk code false k_p21) = true := by decide +kernel
theorem k_x271_8 : k_c271_8.all (g_chk code false k_p21) = true := by decide +kernel
