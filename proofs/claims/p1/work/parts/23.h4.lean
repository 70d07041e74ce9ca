/-! a long run: FarBank, will -/
theorem zr_96 : z_chkX ze_96 = true := by decide +kernel
