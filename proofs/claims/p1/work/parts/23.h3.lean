/-! a long run: FarBankModel, ruin -/
theorem zr_73 : z_chkM ze_73 = true := by decide +kernel
