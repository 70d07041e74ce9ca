/-! words about rows, taken up at places of the code -/
noncomputable def q_loc (ls : List (Nat × qV)) (i : Nat) (k : qL → Bool) : Bool := q_ob (q_get ls i) fun a => q_and (q_tI a) (q_fl a.2.2.1 k)
/-- the int at a place of cell c, as the facts have it -/
noncomputable def q_ff (p c : Nat) (i : qL) (k : qL → Bool) (w : qW) : Bool := q_cw w fun _ b _ fs _ => q_ob (q_find b p (q_c (Int.ofNat c)) i fs) fun a => q_and (q_tI a) (q_fl a.2.2.1 k)
noncomputable def q_addg (g : Nat) (as : List qL) (k : qW → Bool) (w : qW) : Bool := q_fls as fun as => q_cw w fun n b cs fs gs => k (n, b, cs, fs, (g, as) :: gs)
noncomputable def q_hasg (g : Nat) (as : List qL) (w : qW) : Bool := q_cw w fun _ b _ _ gs => q_ghas b g as gs
noncomputable def q_prw (l : qL) (w : qW) : Bool := q_cw w fun _ b cs _ _ => q_pr b cs l
noncomputable def q_eqw (x y : qL) (w : qW) : Bool := q_cw w fun _ b _ _ _ => q_eq b x y
noncomputable def q_inw (l : qL) (lo hi : Int) (w : qW) : Bool := q_cw w fun _ b cs _ _ => q_win b cs l lo hi
/-- some ghost of the name -/
noncomputable def q_exg (g : Nat) (f : List qL → Bool) (w : qW) : Bool := q_cw w fun n _ _ _ gs => q_any (fun h => q_and (Nat.beq (Prod.fst h) g) (q_and (q_all (q_sco n) (Prod.snd h)) (f (Prod.snd h)))) gs
noncomputable abbrev q_a1 (l : List qL) (k : qL → Bool) : Bool := q_lc l fun a t => q_and (z_nil t) (k a)
noncomputable abbrev q_a2 (l : List qL) (k : qL → qL → Bool) : Bool := q_lc l fun a t => q_a1 t fun b => k a b
noncomputable abbrev q_a3 (l : List qL) (k : qL → qL → qL → Bool) : Bool := q_lc l fun a t => q_a2 t fun b c => k a b c
abbrev qR : Type := List (Nat × qV) → (qW → Bool) → qW → Bool
noncomputable abbrev q_i (n : Nat) : qL := (Int.ofNat n, [])
noncomputable abbrev q_bank (k : qL → Bool) (w : qW) : Bool := q_ff 151 144 (q_i 39) k w
noncomputable abbrev q_rb (k : qL → Bool) (w : qW) : Bool := q_ff 152 144 (q_i 40) k w
noncomputable abbrev q_p1 (l : qL) : qL := q_pl l (Int.ofNat 1)
noncomputable abbrev q_m1 (l : qL) : qL := q_pl l (Int.negSucc 0)
noncomputable def q_u0 : qR := fun _ k w => q_addg 6 [q_0] k w
noncomputable def q_u1 : qR := fun ls k w => q_loc ls 3 fun x => q_and (q_hasg 6 [x] w) (q_ff 218 181 x (fun y => q_and (q_eqw y q_0 w) (q_addg 6 [q_p1 x] k w)) w)
noncomputable def q_u2 : qR := fun _ k w => q_exg 6 (fun as => q_a1 as fun x => q_and (q_prw (q_pl x (Int.negSucc 35)) w) (q_addg 7 [q_0] k w)) w
noncomputable def q_u3 : qR := fun ls k w => q_loc ls 3 fun i => q_and (q_prw (q_pl (q_ng i) (Int.ofNat 35)) w) (q_ff 218 181 i (fun x => q_and (q_eqw x q_0 w) (q_exg 7 (fun as => q_a1 as fun n => q_asm [q_pl (q_ng n) (Int.ofNat 35)] (q_addg 8 [n, i] k) w) w)) w)
noncomputable def q_u4 : qR := fun _ k w => q_exg 8 (fun as => q_a2 as fun n i => q_ff 218 181 i (fun x => q_and (q_eqw x (q_p1 n) w) (q_addg 7 [q_p1 n] k w)) w) w
noncomputable def q_u5 : qR := fun ls k w => q_loc ls 3 fun i => q_and (q_prw (q_pl (q_ng i) (Int.ofNat 35)) w) (q_ff 218 181 i (fun x => q_exg 7 (fun as => q_a1 as fun n => q_asm [q_sub n x] k w) w) w)
noncomputable def q_u6 : qR := fun ls k w => q_loc ls 1 fun g => q_addg 9 [g, (Int.negSucc 0, []), q_0] k w
noncomputable def q_twn (b p : qL) (k : qL → Bool) (w : qW) : Bool := q_fl (q_add (q_sc (Int.ofNat 8) b) p) fun i => q_ff 193 156 i k w
noncomputable def q_grp (b g : qL) (k : qL → Bool) (w : qW) : Bool := q_fl (q_add (q_sc (Int.ofNat 6) b) g) fun i => q_ff 196 159 i k w
noncomputable def q_u7 : qR := fun ls k w => q_bank (fun b => q_loc ls 1 fun g => q_loc ls 4 fun p => q_twn b p (fun x => q_grp b g (fun y => q_and (q_or (q_prw (q_m1 (q_sub x y)) w) (q_prw (q_m1 (q_sub y x)) w)) (q_exg 9 (fun as => q_a3 as fun gg bb pp => q_and (q_eqw gg g w) (q_and (q_eqw pp p w) (q_addg 9 [g, bb, q_p1 p] k w))) w)) w) w) w
noncomputable def q_u8 : qR := fun ls k w => q_loc ls 1 fun g => q_loc ls 2 fun e => q_loc ls 4 fun p => z_if (q_fl (q_p1 p) fun p1 => q_hasg 9 [g, e, p1] w) (k w) (q_and (q_prw e w) (q_addg 9 [g, e, q_p1 p] k w))
noncomputable def q_u9 : qR := fun _ k w => q_bank (fun b => q_ff 185 148 b (fun m => q_exg 9 (fun as => q_a3 as fun g e p => q_and (q_prw (q_sub p m) w) (q_addg 10 [g, e] k w)) w) w) w
noncomputable def q_u10 : qR := fun _ k w => q_addg 11 [q_0] k w
noncomputable def q_u11 : qR := fun ls k w => q_loc ls 1 fun g => q_ff 213 176 g (fun v => q_and (q_hasg 11 [g] w) (q_and (q_hasg 10 [g, v] w) (q_addg 11 [q_p1 g] k w))) w
noncomputable def q_u12 : qR := fun _ k w => q_bank (fun b => q_ff 186 149 b (fun m => q_exg 11 (fun as => q_a1 as fun g => q_and (q_prw (q_sub g m) w) (q_addg 12 [] k w)) w) w) w
noncomputable def q_u13 : qR := fun ls k w => q_bank (fun b => q_loc ls 1 fun g => q_loc ls 2 fun p => q_twn b p (fun x => q_grp b g (fun y => q_ff 213 176 g (fun v => q_ff 186 149 b (fun m => q_ff 185 148 b (fun q =>
  q_and (q_and (q_prw (q_sub x y) w) (q_prw (q_sub y x) w)) (q_and (q_and (q_prw g w) (q_prw p w)) (q_and (q_and (q_prw (q_m1 (q_sub m g)) w) (q_prw (q_m1 (q_sub q p)) w)) (q_and (q_hasg 12 [] w) (q_asm [v] k w))))) w) w) w) w) w) w
noncomputable def q_u14 : qR := fun _ k w => q_bank (fun b => q_and (q_hasg 4 [] w) (q_addg 3 [b] k w)) w
noncomputable def q_u15 : qR := fun _ k w => q_bank (fun b => q_ff 199 162 b (fun f => q_ff 201 164 b (fun h => q_and (q_hasg 3 [b] w) (q_and (q_eqw h (q_i 1) w) (q_rd 200 (q_c (Int.ofNat 163)) b (fun w t => q_and (q_tI t) (q_addg 5 [f, t.2.2.1, q_0] k w)) w))) w) w) w
/-- one sign of a formula: ok its class, need what the depth must be, to where it goes -/
noncomputable def q_wst (ok : qL → qW → Bool) (need : qL → qL) (dn : Int) : qR := fun ls k w => q_loc ls 2 fun x => q_loc ls 1 fun n => q_ff 207 170 x (fun c => q_and (ok c w) (q_exg 5 (fun as => q_a3 as fun kk t nn => q_and (q_eqw kk x w) (q_and (q_eqw nn n w) (q_and (q_prw (q_m1 (q_sub t x)) w) (q_asm [need n] (q_addg 5 [q_p1 x, t, q_pl n dn] k) w)))) w)) w
noncomputable def q_u16 : qR := q_wst (fun c w => q_eqw c (q_i 126) w) q_m1 (Int.ofNat 0)
noncomputable def q_u17 : qR := q_wst (fun c w => q_inw c (Int.ofNat 97) (Int.ofNat 122) w) (fun n => q_pl (q_ng n) (Int.ofNat 59)) (Int.ofNat 1)
noncomputable def q_u18 : qR := q_wst (fun c w => q_or (q_prw (q_pl (q_ng c) (Int.ofNat 96)) w) (q_or (q_inw c (Int.ofNat 123) (Int.ofNat 125) w) (q_prw (q_pl c (Int.negSucc 126)) w))) (fun n => q_pl n (Int.negSucc 1)) (Int.negSucc 0)
noncomputable def q_sgn (s : qL) (w : qW) : Bool := q_or (q_inw s (Int.ofNat 37) (Int.ofNat 62) w) (q_eqw s (q_i 124) w)
noncomputable def q_u19 : qR := fun _ k w => q_exg 1 (fun as => q_a3 as fun f c d => q_ff 207 170 c (fun x =>
  z_if (q_and (q_inw x (Int.ofNat 97) (Int.ofNat 122) w) (q_prw (q_pl (q_ng d) (Int.ofNat 59)) w)) (q_addg 1 [f, q_p1 c, q_p1 d] k w)
  (z_if (q_and (q_eqw x (q_i 126) w) (q_prw (q_m1 d) w)) (q_addg 1 [f, q_p1 c, d] k w)
  (q_and (q_and (q_sgn x w) (q_prw (q_pl d (Int.negSucc 1)) w)) (q_addg 1 [f, q_p1 c, q_m1 d] k w)))) w) w
noncomputable def q_u20 : qR := fun _ k w => q_exg 0 (fun as => q_a2 as fun m x => q_ff 209 172 m (fun a => q_ff 210 173 m (fun s =>
  z_if (q_or (q_eqw a (q_i 7) w) (q_and (q_eqw a (q_i 3) w) (q_eqw s (q_i 126) w))) (q_addg 0 [q_p1 m, q_p1 x] k w)
  (q_and (q_and (q_or (q_inw a (Int.ofNat 1) (Int.ofNat 2) w) (q_inw a (Int.ofNat 4) (Int.ofNat 6) w)) (q_sgn s w)) (q_addg 0 [q_p1 m, x] k w))) w) w) w
noncomputable def q_u21 : qR := fun _ k w => q_ff 209 172 q_0 (fun a => q_and (q_eqw a (q_i 8) w) (q_addg 0 [q_i 1, q_0] k w)) w
noncomputable def q_addf (p c : Nat) (i : qL) (a : qL) (k : qW → Bool) (w : qW) : Bool := q_fl i fun i => q_cw w fun n b cs fs gs => k (n, b, cs, (p, q_c (Int.ofNat c), i, q_vi a) :: fs, gs)
noncomputable def q_popb (m x a : qL) (k : qW → Bool) (w : qW) : Bool := q_and (q_prw (q_pl (q_ng a) (Int.ofNat 6)) w) (q_asm [q_m1 a, q_pl m (Int.negSucc 1), x, q_pl (q_sub m x) (Int.negSucc 1)] (fun w =>
  q_and (q_fr (Int.ofNat 37) (Int.ofNat 62) (fun _ => []) (fun w l => q_addf 210 173 (q_m1 m) l (q_addg 0 [q_m1 m, x] k) w) w) (q_addf 210 173 (q_m1 m) (q_i 124) (q_addg 0 [q_m1 m, x] k) w)) w)
noncomputable def q_u22 : qR := fun _ k w => q_exg 0 (fun as => q_a2 as fun m x => q_fl (q_m1 m) fun i => q_ff 209 172 i (fun a =>
  q_and (q_rel .eq a (q_i 3) (q_asm [q_pl m (Int.negSucc 1), q_m1 x, q_m1 (q_sub m x)] (q_addf 210 173 (q_m1 m) (q_i 126) (q_addg 0 [q_m1 m, q_m1 x] k))) w)
  (q_and (q_rel .le a (q_i 2) (q_popb m x a k) w) (q_rel .ge a (q_i 4) (q_popb m x a k) w))) w) w
noncomputable def q_u23 : qR := fun _ k w => q_exg 0 (fun as => q_a2 as fun m x => q_fl (q_m1 m) fun i => q_ff 209 172 i (fun a =>
  q_and (q_rel .eq a (q_i 7) (q_asm [q_pl m (Int.negSucc 1), q_m1 x, q_m1 (q_sub m x)] (q_addg 0 [q_m1 m, q_m1 x] k)) w)
  (q_and (q_rel .eq a (q_i 8) (q_asm [q_pl (q_ng m) (Int.ofNat 1), q_m1 m, x, q_ng x] k) w) (q_rel .le a (q_i 6) (fun _ => false) w))) w) w
noncomputable def q_u24 : qR := fun _ k w => q_exg 1 (fun as => q_a3 as fun f c _ => q_addg 2 [f, c] k w) w
noncomputable def q_u25 : qR := fun ls k w => q_loc ls 1 fun x => q_ff 209 172 x (fun a => q_exg 0 (fun as => q_a2 as fun m _ => q_and (q_prw (q_m1 (q_sub m x)) w) (q_and (q_prw (q_pl (q_ng a) (Int.ofNat 6)) w) (q_asm [q_m1 x] k w))) w) w
noncomputable def q_u26 : qR := fun _ k w => q_ff 153 144 (q_i 41) (fun c => q_and (q_prw c w) (q_addg 1 [c, c, q_0] k w)) w
noncomputable def q_u27 : qR := fun _ k w => q_rb (fun b => q_ff 199 162 b (fun f => q_ff 200 163 b (fun c => z_if (q_hasg 2 [f, c] w) (q_and (q_inw b (Int.ofNat 0) (Int.ofNat 1) w) (q_and (q_and (q_prw (q_sub f (q_sc (Int.ofNat 560) b)) w) (q_prw (q_pl (q_sub (q_sc (Int.ofNat 560) b) c) (Int.ofNat 560)) w)) (q_addg 3 [b] k w))) (k w)) w) w) w
noncomputable def q_u28 : qR := fun _ k w => q_rb (fun b => q_ff 201 164 b (fun h => q_and (q_inw b (Int.ofNat 0) (Int.ofNat 1) w) (q_and (q_eqw h q_0 w) (q_addg 3 [b] k w))) w) w
noncomputable def q_u29 : qR := fun _ k w => q_bank (fun b => q_and (q_hasg 3 [b] w) (q_addg 4 [] k w)) w
noncomputable def q_rules : List qR := [q_u0, q_u1, q_u2, q_u3, q_u4, q_u5, q_u6, q_u7, q_u8, q_u9, q_u10, q_u11, q_u12, q_u13, q_u14, q_u15, q_u16, q_u17, q_u18, q_u19, q_u20, q_u21, q_u22, q_u23, q_u24, q_u25, q_u26, q_u27, q_u28, q_u29]
/-! an instruction, a run, a contract -/
noncomputable def q_hnt (k : qW → Bool) (ls : List (Nat × qV)) (hs : List Nat) : qW → Bool := List.rec (motive := fun _ => qW → Bool) k (fun h _ ih w => q_ob (z_nth q_rules h) fun r => r ls ih w) hs
