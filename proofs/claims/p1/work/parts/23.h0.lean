/-! a long run: FarBank, hold -/
theorem zr_42 : z_chkX ze_42 = true := by decide +kernel
