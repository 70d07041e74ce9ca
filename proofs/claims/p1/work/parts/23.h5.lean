/-! a long run: FarBankModel, will -/
theorem zr_97 : z_chkM ze_97 = true := by decide +kernel
