/-! the law's instructions -/
theorem zld_7 : z_db (zm_b zm_law) zl_7 = true := by decide +kernel
theorem zlx_7 : z_xb z_Ms z_kl zm_law (zl_7.zip [0, 0, 0, 0, 0, 0, 7225, 0, 0, 0, 4087, 0, 0, 8015, 0, 0, 0, 0, 0, 0, 0, 0, 4111, 0, 0, 0, 0, 0, 0, 0, 8027, 0, 0, 0, 0, 0, 0, 0, 0, 0]) = true := by decide +kernel
theorem zlo_7 : ∀ e ∈ zl_7, zEok z_Ms zm_law e := z_eokL rfl zld_7 zlx_7
theorem zld_8 : z_db (zm_b zm_law) zl_8 = true := by decide +kernel
theorem zlx_8 : z_xb z_Ms z_kl zm_law (zl_8.zip [0, 0, 0, 0, 4115, 0, 0, 0, 0, 0, 0, 0, 0, 0, 0, 0, 0, 8031, 0, 0, 0, 4123, 0, 0, 8039, 0, 0, 0, 4139, 0, 0, 8055, 0, 0, 0, 4147, 0, 0, 8063, 0]) = true := by decide +kernel
theorem zlo_8 : ∀ e ∈ zl_8, zEok z_Ms zm_law e := z_eokL rfl zld_8 zlx_8
theorem zld_9 : z_db (zm_b zm_law) zl_9 = true := by decide +kernel
theorem zlx_9 : z_xb z_Ms z_kl zm_law (zl_9.zip [0, 0, 0, 0, 0, 0, 0, 0, 0, 0, 0, 0, 4155, 0, 0, 0, 0, 0, 0, 0, 0, 0, 0, 0, 0, 8071, 0, 0, 0, 0, 0, 0, 0, 0, 0, 0, 0, 0, 0, 4166]) = true := by decide +kernel
theorem zlo_9 : ∀ e ∈ zl_9, zEok z_Ms zm_law e := z_eokL rfl zld_9 zlx_9
theorem zld_10 : z_db (zm_b zm_law) zl_10 = true := by decide +kernel
theorem zlx_10 : z_xb z_Ms z_kl zm_law (zl_10.zip [0, 0, 0, 0, 0, 0, 0, 0, 0, 0, 0, 0, 7237, 0, 0, 0, 0, 0, 0, 0, 0, 4171, 0, 0, 0, 0, 0, 0, 0, 8086, 0, 0, 0, 0, 0, 0, 0, 0, 0, 0]) = true := by decide +kernel
theorem zlo_10 : ∀ e ∈ zl_10, zEok z_Ms zm_law e := z_eokL rfl zld_10 zlx_10
theorem zld_11 : z_db (zm_b zm_law) zl_11 = true := by decide +kernel
theorem zlx_11 : z_xb z_Ms z_kl zm_law (zl_11.zip [0, 0, 0, 4179, 0, 0, 0, 0, 0, 0, 0, 0, 0, 0, 0, 0, 8094, 0, 0, 0, 0, 0, 0, 0, 0, 0, 0, 0, 0, 0, 4209, 0, 0, 0, 0, 0, 0, 0, 0, 0]) = true := by decide +kernel
theorem zlo_11 : ∀ e ∈ zl_11, zEok z_Ms zm_law e := z_eokL rfl zld_11 zlx_11
theorem zld_12 : z_db (zm_b zm_law) zl_12 = true := by decide +kernel
theorem zlx_12 : z_xb z_Ms z_kl zm_law (zl_12.zip [0, 0, 0, 8001, 0, 0, 0, 0, 0, 0, 0, 0, 0, 0, 0, 0, 0, 0, 0, 0, 0, 0, 0, 0, 0, 0, 0, 4234, 0, 0, 0, 0, 0, 0, 0, 0, 0, 0, 0, 0]) = true := by decide +kernel
theorem zlo_12 : ∀ e ∈ zl_12, zEok z_Ms zm_law e := z_eokL rfl zld_12 zlx_12
theorem zld_13 : z_db (zm_b zm_law) zl_13 = true := by decide +kernel
theorem zlx_13 : z_xb z_Ms z_kl zm_law (zl_13.zip [0, 0, 0, 0, 0, 0, 0, 0, 0, 0, 8112, 0, 0, 0, 0, 0, 0, 0, 0, 0, 0, 0, 0, 0, 5008, 0, 0, 0, 0, 0, 0, 0, 0, 0, 0, 0, 0, 8132, 0, 0]) = true := by decide +kernel
theorem zlo_13 : ∀ e ∈ zl_13, zEok z_Ms zm_law e := z_eokL rfl zld_13 zlx_13
