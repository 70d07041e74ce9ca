/-- script values free, its length at most 6 -/
def z_b1 : zB := [(0, 4294967296, []), (0, 4294967296, []), (0, 4294967296, []), (0, 4294967296, []), (0, 4294967296, []), (0, 4294967296, []), (2147483648, 2147483655, [])]
noncomputable def z_is1 (r : zR) : Bool := Option.rec (motive := fun _ => Bool) false (fun v => z_sameV v (.inl (.int (Int32.ofNat 1)))) r.2.1
theorem z_law_run : Option.rec (motive := fun _ => Bool) false (fun lv => z_allR z_is1 lv) (z_run z_Ms z_LC (z_code z_Ms zm_law) 100000 [(z_b1, (0, [(0, .inl (.ref z_SCR))], [], z_hl [], 0, 0), z_code z_Ms zm_law)] []) = true := by decide +kernel
