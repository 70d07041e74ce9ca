/-! a long run: FarBank, ruin -/
theorem zr_72 : z_chkX ze_72 = true := by decide +kernel
