/-! the law's instructions -/
theorem zld_21 : z_db (zm_b zm_law) zl_21 = true := by decide +kernel
theorem zlx_21 : z_xb z_Ms z_kl zm_law (zl_21.zip [0, 0, 0, 0, 0, 0, 0, 0, 5131, 0, 0, 0, 0, 0, 0, 0, 0, 0, 0, 0, 0, 8105, 0, 0, 0, 0, 0, 0, 0, 0, 0, 0, 0, 0, 0, 5135, 0, 0, 0, 0]) = true := by decide +kernel
theorem zlo_21 : ∀ e ∈ zl_21, zEok z_Ms zm_law e := z_eokL rfl zld_21 zlx_21
theorem zld_22 : z_db (zm_b zm_law) zl_22 = true := by decide +kernel
theorem zlx_22 : z_xb z_Ms z_kl zm_law (zl_22.zip [0, 0, 0, 0, 0, 0, 0, 0, 8148, 0, 0, 0, 0, 0, 0, 0, 0, 5139, 0, 0, 0, 0, 0, 0, 0, 8067, 0, 0, 0, 0, 0, 0, 0, 0, 0, 0, 0, 0, 0, 0]) = true := by decide +kernel
theorem zlo_22 : ∀ e ∈ zl_22, zEok z_Ms zm_law e := z_eokL rfl zld_22 zlx_22
theorem zld_23 : z_db (zm_b zm_law) zl_23 = true := by decide +kernel
theorem zlx_23 : z_xb z_Ms z_kl zm_law (zl_23.zip [0, 0, 0, 0, 0, 0, 0, 0, 5143, 0, 0, 0, 0, 0, 0, 0, 0, 0, 0, 0, 0, 0, 0, 0, 0, 0, 0, 0, 0, 0, 8216, 0, 0, 0, 0, 0, 0, 0, 0, 0]) = true := by decide +kernel
theorem zlo_23 : ∀ e ∈ zl_23, zEok z_Ms zm_law e := z_eokL rfl zld_23 zlx_23
theorem zld_24 : z_db (zm_b zm_law) zl_24 = true := by decide +kernel
theorem zlx_24 : z_xb z_Ms z_kl zm_law (zl_24.zip [0, 0, 0, 0, 0, 0, 0, 0, 5151, 0, 0, 0, 0, 0, 0, 0, 0, 0, 0, 0, 0, 0, 0, 0, 0, 8224, 0, 0, 0, 0, 0, 0, 0, 0, 5155, 0, 0, 0, 0, 0]) = true := by decide +kernel
theorem zlo_24 : ∀ e ∈ zl_24, zEok z_Ms zm_law e := z_eokL rfl zld_24 zlx_24
theorem zld_25 : z_db (zm_b zm_law) zl_25 = true := by decide +kernel
theorem zlx_25 : z_xb z_Ms z_kl zm_law (zl_25.zip [0, 0, 8228, 0, 0, 0, 0, 0, 0, 0, 0, 5163, 0, 0, 0, 0, 0, 0, 8232, 0, 0, 0, 0, 0, 0, 0, 5172, 0, 0, 0, 0, 0, 0, 0, 8237, 0, 0, 0, 0, 0]) = true := by decide +kernel
theorem zlo_25 : ∀ e ∈ zl_25, zEok z_Ms zm_law e := z_eokL rfl zld_25 zlx_25
theorem zld_26 : z_db (zm_b zm_law) zl_26 = true := by decide +kernel
theorem zlx_26 : z_xb z_Ms z_kl zm_law (zl_26.zip [0, 0, 0, 0, 0, 0, 0, 0, 5186, 0, 0, 0, 0, 0, 0, 0, 0, 0, 0, 0, 0, 9005, 0, 0, 0, 0, 0, 0, 0, 0, 5200, 0, 0, 0, 0, 0, 0, 0, 9014, 0]) = true := by decide +kernel
theorem zlo_26 : ∀ e ∈ zl_26, zEok z_Ms zm_law e := z_eokL rfl zld_26 zlx_26
theorem zld_27 : z_db (zm_b zm_law) zl_27 = true := by decide +kernel
theorem zlx_27 : z_xb z_Ms z_kl zm_law (zl_27.zip [0, 0, 0, 0, 0, 0, 0, 5205, 0, 0, 0, 0, 0, 0, 0, 9018, 0, 0, 0, 0, 0, 0, 0, 0, 5213, 0, 0, 0, 0, 0, 0, 0, 9022, 0, 0, 0, 0, 0, 0]) = true := by decide +kernel
theorem zlo_27 : ∀ e ∈ zl_27, zEok z_Ms zm_law e := z_eokL rfl zld_27 zlx_27
