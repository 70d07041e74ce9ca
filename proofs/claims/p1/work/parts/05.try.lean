def z_b0 : zB := List.replicate 7 (0, 4294967296, [])
theorem try0 : (match z_call z_Ms 12 72 [.inl (.ref 0)] (z_hl [some (.inr (0, z_new 0))]) z_b0 with
  | some [r] => r.2.2.1 == 3
  | _ => false) = true := by decide +kernel
theorem try1 : (match z_call z_Ms 12 70 [.inl (.ref 0)] (z_hl [some (.inr (7, z_new 7))]) z_b0 with
  | some [r] => r.2.2.1 == 2
  | _ => false) = true := by decide +kernel
