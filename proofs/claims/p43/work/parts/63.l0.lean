/-! the law's instructions -/
theorem zld_0 : z_db (zm_b zm_law) zl_0 = true := by decide +kernel
theorem zlx_0 : z_xb z_Ms z_kl zm_law (zl_0.zip [1021, 0, 1023, 0, 5229, 0, 5231, 0, 0, 0, 0, 0, 0, 0, 0, 0, 0, 0, 0, 0, 0, 0, 0, 0, 0, 0, 0, 0, 0, 0, 0, 0, 0, 0, 0, 0, 0, 0, 0, 0]) = true := by decide +kernel
theorem zlo_0 : ∀ e ∈ zl_0, zEok z_Ms zm_law e := z_eokL rfl zld_0 zlx_0
theorem zld_1 : z_db (zm_b zm_law) zl_1 = true := by decide +kernel
theorem zlx_1 : z_xb z_Ms z_kl zm_law (zl_1.zip [0, 0, 0, 0, 0, 0, 0, 0, 2206, 0, 0, 0, 0, 0, 0, 0, 0, 0, 0, 0, 0, 0, 0, 0, 0, 0, 0, 0, 0, 0, 0, 0, 0, 0, 0, 0, 9026, 0, 0, 0]) = true := by decide +kernel
theorem zlo_1 : ∀ e ∈ zl_1, zEok z_Ms zm_law e := z_eokL rfl zld_1 zlx_1
theorem zld_2 : z_db (zm_b zm_law) zl_2 = true := by decide +kernel
theorem zlx_2 : z_xb z_Ms z_kl zm_law (zl_2.zip [0, 0, 0, 0, 0, 2214, 0, 0, 0, 0, 0, 0, 0, 9030, 0, 0, 0, 2218, 0, 0, 6217, 0, 0, 0, 0, 0, 0, 0, 0, 3173, 0, 0, 0, 0, 0, 0, 0, 7130, 0, 0]) = true := by decide +kernel
theorem zlo_2 : ∀ e ∈ zl_2, zEok z_Ms zm_law e := z_eokL rfl zld_2 zlx_2
theorem zld_3 : z_db (zm_b zm_law) zl_3 = true := by decide +kernel
theorem zlx_3 : z_xb z_Ms z_kl zm_law (zl_3.zip [0, 0, 0, 0, 0, 0, 0, 0, 0, 0, 0, 3177, 0, 0, 0, 0, 0, 0, 0, 0, 0, 0, 0, 0, 7134, 0, 0, 0, 0, 0, 0, 0, 0, 0, 0, 0, 0, 0, 3195, 0]) = true := by decide +kernel
theorem zlo_3 : ∀ e ∈ zl_3, zEok z_Ms zm_law e := z_eokL rfl zld_3 zlx_3
theorem zld_4 : z_db (zm_b zm_law) zl_4 = true := by decide +kernel
theorem zlx_4 : z_xb z_Ms z_kl zm_law (zl_4.zip [0, 0, 0, 0, 0, 0, 0, 0, 0, 0, 0, 7155, 0, 0, 0, 0, 0, 0, 0, 0, 0, 0, 0, 0, 0, 3224, 0, 0, 0, 0, 0, 0, 0, 0, 0, 0, 0, 0, 7175, 0]) = true := by decide +kernel
theorem zlo_4 : ∀ e ∈ zl_4, zEok z_Ms zm_law e := z_eokL rfl zld_4 zlx_4
theorem zld_5 : z_db (zm_b zm_law) zl_5 = true := by decide +kernel
theorem zlx_5 : z_xb z_Ms z_kl zm_law (zl_5.zip [0, 0, 0, 0, 0, 0, 0, 0, 0, 0, 0, 0, 3228, 0, 0, 0, 0, 0, 0, 0, 0, 0, 0, 0, 0, 7183, 0, 0, 0, 0, 0, 0, 0, 0, 0, 0, 0, 0, 0, 4034]) = true := by decide +kernel
theorem zlo_5 : ∀ e ∈ zl_5, zEok z_Ms zm_law e := z_eokL rfl zld_5 zlx_5
theorem zld_6 : z_db (zm_b zm_law) zl_6 = true := by decide +kernel
theorem zlx_6 : z_xb z_Ms z_kl zm_law (zl_6.zip [0, 0, 0, 0, 0, 0, 0, 0, 0, 0, 0, 0, 7206, 0, 0, 0, 0, 0, 0, 0, 0, 4066, 0, 0, 0, 0, 0, 0, 0, 7217, 0, 0, 0, 0, 0, 0, 0, 0, 4074, 0]) = true := by decide +kernel
theorem zlo_6 : ∀ e ∈ zl_6, zEok z_Ms zm_law e := z_eokL rfl zld_6 zlx_6
