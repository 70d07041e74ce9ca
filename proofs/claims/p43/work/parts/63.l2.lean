/-! the law's instructions -/
theorem zld_14 : z_db (zm_b zm_law) zl_14 = true := by decide +kernel
theorem zlx_14 : z_xb z_Ms z_kl zm_law (zl_14.zip [0, 0, 0, 0, 0, 0, 0, 0, 0, 0, 0, 5021, 0, 0, 0, 0, 0, 0, 0, 0, 0, 0, 0, 0, 8136, 0, 0, 0, 0, 0, 0, 0, 0, 0, 0, 0, 0, 0, 5029, 0]) = true := by decide +kernel
theorem zlo_14 : ∀ e ∈ zl_14, zEok z_Ms zm_law e := z_eokL rfl zld_14 zlx_14
theorem zld_15 : z_db (zm_b zm_law) zl_15 = true := by decide +kernel
theorem zlx_15 : z_xb z_Ms z_kl zm_law (zl_15.zip [0, 0, 0, 0, 0, 0, 0, 0, 0, 0, 0, 8144, 0, 0, 0, 0, 0, 0, 0, 0, 5033, 0, 0, 0, 0, 0, 0, 0, 8152, 0, 0, 0, 0, 0, 0, 0, 0, 5042, 0, 0]) = true := by decide +kernel
theorem zlo_15 : ∀ e ∈ zl_15, zEok z_Ms zm_law e := z_eokL rfl zld_15 zlx_15
theorem zld_16 : z_db (zm_b zm_law) zl_16 = true := by decide +kernel
theorem zlx_16 : z_xb z_Ms z_kl zm_law (zl_16.zip [0, 0, 0, 0, 0, 8160, 0, 0, 0, 0, 0, 0, 0, 0, 5065, 0, 0, 0, 0, 0, 0, 0, 8168, 0, 0, 0, 0, 0, 0, 0, 0, 0, 0, 0, 0, 0, 0, 0, 0, 0]) = true := by decide +kernel
theorem zlo_16 : ∀ e ∈ zl_16, zEok z_Ms zm_law e := z_eokL rfl zld_16 zlx_16
theorem zld_17 : z_db (zm_b zm_law) zl_17 = true := by decide +kernel
theorem zlx_17 : z_xb z_Ms z_kl zm_law (zl_17.zip [0, 5070, 0, 0, 0, 0, 0, 0, 0, 0, 0, 0, 0, 0, 0, 0, 0, 0, 0, 8172, 0, 0, 0, 0, 0, 0, 0, 0, 0, 0, 0, 0, 0, 0, 0, 0, 0, 0, 5083, 0]) = true := by decide +kernel
theorem zlo_17 : ∀ e ∈ zl_17, zEok z_Ms zm_law e := z_eokL rfl zld_17 zlx_17
theorem zld_18 : z_db (zm_b zm_law) zl_18 = true := by decide +kernel
theorem zlx_18 : z_xb z_Ms z_kl zm_law (zl_18.zip [0, 0, 0, 0, 0, 0, 0, 0, 0, 0, 0, 0, 0, 0, 0, 0, 8180, 0, 0, 0, 0, 0, 0, 0, 0, 5093, 0, 0, 0, 0, 0, 0, 0, 8184, 0, 0, 0, 0, 0, 0]) = true := by decide +kernel
theorem zlo_18 : ∀ e ∈ zl_18, zEok z_Ms zm_law e := z_eokL rfl zld_18 zlx_18
theorem zld_19 : z_db (zm_b zm_law) zl_19 = true := by decide +kernel
theorem zlx_19 : z_xb z_Ms z_kl zm_law (zl_19.zip [0, 0, 0, 0, 0, 0, 0, 0, 0, 0, 0, 0, 5105, 0, 0, 0, 0, 0, 0, 0, 0, 0, 0, 0, 0, 0, 0, 0, 0, 0, 8196, 0, 0, 0, 0, 0, 0, 0, 0, 5118]) = true := by decide +kernel
theorem zlo_19 : ∀ e ∈ zl_19, zEok z_Ms zm_law e := z_eokL rfl zld_19 zlx_19
theorem zld_20 : z_db (zm_b zm_law) zl_20 = true := by decide +kernel
theorem zlx_20 : z_xb z_Ms z_kl zm_law (zl_20.zip [0, 0, 0, 0, 0, 0, 0, 8212, 0, 0, 0, 0, 0, 0, 0, 0, 0, 0, 0, 0, 0, 5122, 0, 0, 0, 0, 0, 0, 0, 0, 0, 0, 0, 0, 8090, 0, 0, 0, 0, 0]) = true := by decide +kernel
theorem zlo_20 : ∀ e ∈ zl_20, zEok z_Ms zm_law e := z_eokL rfl zld_20 zlx_20
