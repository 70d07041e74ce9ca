/-! a long run: FarBankModel, hold -/
theorem zr_43 : z_chkM ze_43 = true := by decide +kernel
