def z_b0 : zB := List.replicate 7 (-2147483648, 2147483647, [])
set_option maxRecDepth 100000 in
theorem try0 : (match z_call z_Ms 12 72 [.inl (.ref 0)] [some (.inr (0, z_new 0))] z_b0 with
  | some [r] => r.2.2.length == 3
  | _ => false) = true := by decide +kernel
set_option maxRecDepth 100000 in
theorem try1 : (match z_call z_Ms 12 70 [.inl (.ref 0)] [some (.inr (7, z_new 7))] z_b0 with
  | some [r] => r.2.2.length == 2
  | _ => false) = true := by decide +kernel
