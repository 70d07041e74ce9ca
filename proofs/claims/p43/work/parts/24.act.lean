/-! what the checker does at an instruction -/
abbrev qK : Type := qA → Bool
abbrev qAct : Type := qK → qA → Bool
noncomputable def q_get (ls : List (Nat × qV)) (i : Nat) : Option qV := List.rec (motive := fun _ => Option qV) none (fun q _ ih => z_if (Nat.beq (Prod.fst q) i) (some (Prod.snd q)) ih) ls
noncomputable def q_c1 (a : qV) : Bool := q_or (Nat.beq a.1 1) (q_or (Nat.beq a.1 3) (Nat.beq a.1 4))
noncomputable def q_tR (a : qV) : Bool := Nat.beq a.1 3
noncomputable def q_tL (a : qV) : Bool := Nat.beq a.1 2
noncomputable def q_tA (a : qV) : Bool := q_or (Nat.beq a.1 3) (Nat.beq a.1 6)
noncomputable def q_flt (ok : Nat × qV → Bool) (ls : List (Nat × qV)) : (List (Nat × qV) → Bool) → Bool := List.rec (motive := fun _ => (List (Nat × qV) → Bool) → Bool) (fun k => k []) (fun q _ ih k => z_if (ok q) (ih fun t => k (q :: t)) (ih k)) ls
noncomputable def q_k1 (i : Nat) (q : Nat × qV) : Bool := q_and (q_not (Nat.beq (Prod.fst q) i)) (q_or (q_not (Nat.beq (Nat.succ (Prod.fst q)) i)) (q_c1 (Prod.snd q)))
noncomputable def q_k2 (i : Nat) (q : Nat × qV) : Bool := q_and (q_not (Nat.beq (Prod.fst q) (Nat.succ i))) (q_k1 i q)
noncomputable def q_aK (n : Nat) (a : qV) : qAct := fun K A => q_ca A fun pc ls st w => q_fn (Nat.add pc n) fun pc => K (pc, ls, a :: st, w)
noncomputable def q_aLd (n i : Nat) (ok : qV → Bool) : qAct := fun K A => q_ca A fun pc ls st w => q_ob (q_get ls i) fun a => q_fv a fun a => q_and (ok a) (q_fn (Nat.add pc n) fun pc => K (pc, ls, a :: st, w))
noncomputable def q_aSt (n i L : Nat) (ok : qV → Bool) : qAct := fun K A => q_ca A fun pc ls st w => q_lc st fun a t => q_and (ok a) (q_and (Nat.blt i L) (q_flt (q_k1 i) ls fun ls => q_fn (Nat.add pc n) fun pc => K (pc, (i, a) :: ls, t, w)))
noncomputable def q_aSt2 (n i L : Nat) : qAct := fun K A => q_ca A fun pc ls st w => q_lc st fun a t => q_and (q_tL a) (q_and (Nat.blt (Nat.succ i) L) (q_flt (q_k2 i) ls fun ls => q_fn (Nat.add pc n) fun pc => K (pc, (i, a) :: ls, t, w)))
noncomputable def q_aInc (i L : Nat) (c : Int) : qAct := fun K A => q_ca A fun pc ls st w => q_ob (q_get ls i) fun a => q_and (q_tI a) (q_and (Nat.blt i L) (q_res (q_pl a.2.2.1 c) (fun w l => q_flt (q_k1 i) ls fun ls => q_fn (Nat.add pc 3) fun pc => K (pc, (i, q_vi l) :: ls, st, w)) w))
noncomputable def q_aBin (f : qL → qL → (qW → qL → Bool) → qW → Bool) : qAct := fun K A => q_ca A fun pc ls st w => q_lc st fun b s => q_lc s fun a t => q_and (q_tI a) (q_and (q_tI b) (f a.2.2.1 b.2.2.1 (fun w l => q_fn (Nat.add pc 1) fun pc => K (pc, ls, q_vi l :: t, w)) w))
/-- a byte, made positive: two ways -/
noncomputable def q_iand2 (x y : qL) (k : qW → qL → Bool) (w : qW) : Bool := q_cw w fun _ b _ _ _ => q_rng b x fun x1 x2 =>
  z_if (q_and (z_nil y.2) (q_and (q_is0 (Int.sub y.1 (Int.ofNat 255))) (q_and (q_le x1 (Int.negSucc 0)) (q_and (q_le (Int.negSucc 255) x1) (q_le x2 (Int.ofNat 255))))))
    (q_and (q_asm [x] (fun w => k w x) w) (q_asm [q_pl (q_ng x) (Int.negSucc 0)] (fun w => q_fl (q_pl x (Int.ofNat 256)) fun l => k w l) w)) (q_iand x y k w)
noncomputable def q_isub (x y : qL) (k : qW → qL → Bool) (w : qW) : Bool := q_res (q_sub x y) k w
noncomputable def q_iadd (x y : qL) (k : qW → qL → Bool) (w : qW) : Bool := q_res (q_add x y) k w
noncomputable def q_ianyb (_ _ : qL) (k : qW → qL → Bool) (w : qW) : Bool := q_any0 k w
noncomputable def q_aUn (f : qL → (qW → qL → Bool) → qW → Bool) : qAct := fun K A => q_ca A fun pc ls st w => q_lc st fun a t => q_and (q_tI a) (f a.2.2.1 (fun w l => q_fn (Nat.add pc 1) fun pc => K (pc, ls, q_vi l :: t, w)) w)
noncomputable def q_ineg (x : qL) (k : qW → qL → Bool) (w : qW) : Bool := q_res (q_ng x) k w
noncomputable def q_nar (lo hi : Int) (x : qL) (k : qW → qL → Bool) (w : qW) : Bool := q_cw w fun _ b cs _ _ => z_if (q_win b cs x lo hi) (k w x) (q_fr lo hi (fun _ => []) k w)
noncomputable def q_aI2l : qAct := fun K A => q_ca A fun pc ls st w => q_lc st fun a t => q_and (q_tI a) (q_fn (Nat.add pc 1) fun pc => K (pc, ls, q_vl a.2.2.1 :: t, w))
noncomputable def q_aLop (ok : qV → Bool) : qAct := fun K A => q_ca A fun pc ls st w => q_lc st fun b s => q_lc s fun a t => q_and (q_tL a) (q_and (ok b) (q_fr q_LMIN q_LMAX (fun _ => []) (fun w l => q_fn (Nat.add pc 1) fun pc => K (pc, ls, q_vl l :: t, w)) w))
noncomputable def q_aLcm : qAct := fun K A => q_ca A fun pc ls st w => q_lc st fun b s => q_lc s fun a t => q_and (q_tL a) (q_and (q_tL b) (q_fn (Nat.add pc 1) fun pc => K (pc, ls, (5, 0, a.2.2.1, b.2.2.1) :: t, w)))
noncomputable def q_aDup : qAct := fun K A => q_ca A fun pc ls st w => q_lc st fun a t => q_and (q_c1 a) (q_fn (Nat.add pc 1) fun pc => K (pc, ls, a :: a :: t, w))
noncomputable def q_aDup2 : qAct := fun K A => q_ca A fun pc ls st w => q_lc st fun a s => q_lc s fun b t => q_and (q_c1 a) (q_and (q_c1 b) (q_fn (Nat.add pc 1) fun pc => K (pc, ls, a :: b :: a :: b :: t, w)))
noncomputable def q_aPop : qAct := fun K A => q_ca A fun pc ls st w => q_lc st fun a t => q_and (q_c1 a) (q_fn (Nat.add pc 1) fun pc => K (pc, ls, t, w))
noncomputable def q_aGoto (g : Nat) : qAct := fun K A => q_ca A fun _ ls st w => q_fn g fun g => K (g, ls, st, w)
noncomputable def q_rel (r : ClassFile.Cond) (x y : qL) (k : qW → Bool) (w : qW) : Bool := ClassFile.Cond.rec (motive := fun _ => Bool)
  (q_asm [q_sub x y, q_sub y x] k w) (q_and (q_asm [q_pl (q_sub x y) (Int.negSucc 0)] k w) (q_asm [q_pl (q_sub y x) (Int.negSucc 0)] k w))
  (q_asm [q_pl (q_sub y x) (Int.negSucc 0)] k w) (q_asm [q_sub x y] k w) (q_asm [q_pl (q_sub x y) (Int.negSucc 0)] k w) (q_asm [q_sub y x] k w) r
noncomputable def q_cnd (r : ClassFile.Cond) (g : Nat) (x y : qL) (pc : Nat) (ls : List (Nat × qV)) (t : List qV) (K : qK) (w : qW) : Bool :=
  q_and (q_rel r x y (fun w => q_fn g fun g => K (g, ls, t, w)) w) (q_rel (z_neg r) x y (fun w => q_fn (Nat.add pc 3) fun pc => K (pc, ls, t, w)) w)
noncomputable def q_aIf (r : ClassFile.Cond) (g : Nat) : qAct := fun K A => q_ca A fun pc ls st w => q_lc st fun a t => z_if (Nat.beq a.1 5) (q_cnd r g a.2.2.1 a.2.2.2 pc ls t K w) (q_and (q_tI a) (q_cnd r g a.2.2.1 q_0 pc ls t K w))
noncomputable def q_aCmp (r : ClassFile.Cond) (g : Nat) : qAct := fun K A => q_ca A fun pc ls st w => q_lc st fun b s => q_lc s fun a t => q_and (q_tI a) (q_and (q_tI b) (q_cnd r g a.2.2.1 b.2.2.1 pc ls t K w))
noncomputable def q_aNul (is : Bool) (g : Nat) : qAct := fun K A => q_ca A fun pc ls st w => q_lc st fun a t => q_and (q_tR a) (q_fn (z_if is g (Nat.add pc 3)) fun pc => K (pc, ls, t, w))
noncomputable def q_tab (x : qL) (ls : List (Nat × qV)) (t : List qV) (K : qK) (w : qW) (gs : List Nat) : Int → Bool := List.rec (motive := fun _ => Int → Bool) (fun _ => true) (fun g _ ih lo => q_and (q_rel .eq x (q_c lo) (fun w => q_fn g fun g => K (g, ls, t, w)) w) (q_fi (Int.add lo (Int.ofNat 1)) ih)) gs
noncomputable def q_aTab (d : Nat) (lo : Int) (gs : List Nat) : qAct := fun K A => q_ca A fun _ ls st w => q_lc st fun a t => q_and (q_tI a)
  (q_and (q_rel .lt a.2.2.1 (q_c lo) (fun w => q_fn d fun g => K (g, ls, t, w)) w) (q_and (q_rel .ge a.2.2.1 (q_c (Int.add lo (Int.ofNat gs.length))) (fun w => q_fn d fun g => K (g, ls, t, w)) w) (q_tab a.2.2.1 ls t K w gs lo)))
noncomputable def q_lks (pc : Nat) (x : qL) (ls : List (Nat × qV)) (t : List qV) (K : qK) (w : qW) (ps : List (Int × Int)) : Bool := List.rec (motive := fun _ => Bool) true (fun q _ ih => q_and (q_rel .eq x (q_c (Prod.fst q)) (fun w => q_fn (z_tgt pc (Prod.snd q)) fun g => K (g, ls, t, w)) w) ih) ps
noncomputable def q_aLku (d : Int) (ps : List (Int × Int)) : qAct := fun K A => q_ca A fun pc ls st w => q_lc st fun a t => q_and (q_tI a) (q_and (q_fn (z_tgt pc d) fun g => K (g, ls, t, w)) (q_lks pc a.2.2.1 ls t K w ps))
/-! the heap -/
noncomputable def q_aGet (ci j : Nat) : qAct := fun K A => q_ca A fun pc ls st w => q_lc st fun o t => q_and (q_tR o) (q_ob (z_nth q_rks o.2.1) fun r => q_and (Nat.beq r.1 1) (q_and (Nat.beq r.2.1 ci) (q_and (Nat.blt j r.2.2.1) (q_fn (Nat.add r.2.2.2 j) fun p => q_rd p o.2.2.1 (q_c (Int.ofNat j)) (fun w a => q_fn (Nat.add pc 3) fun pc => K (pc, ls, a :: t, w)) w))))
/-- the kinds of a field's value: 1 int, 2 long, 3 a cell, 4 a boolean -/
def q_fty (t : FieldType) : Nat := match t with
  | .int => 1 | .long => 2 | .object _ => 3 | .array _ => 3 | .boolean => 4 | .byte => 5 | _ => 0
noncomputable def q_fok1 (ty : Nat) (b : qB) (cs : List qL) (a : qV) : Bool := z_if (Nat.beq ty 1) (q_tI a) (z_if (Nat.beq ty 2) (q_tL a) (z_if (Nat.beq ty 3) (q_tR a) (z_if (Nat.beq ty 4) (q_and (q_tI a) (q_win b cs a.2.2.1 (Int.ofNat 0) (Int.ofNat 1))) (z_if (Nat.beq ty 5) (q_and (q_tI a) (q_win b cs a.2.2.1 (Int.ofNat 0) (Int.ofNat 127))) false))))
noncomputable def q_unt (a : qV) : qV := z_if (Nat.beq a.1 4) (q_vi a.2.2.1) a
noncomputable def q_aPut (m ci j ty : Nat) : qAct := fun K A => q_ca A fun pc ls st w => q_lc st fun a s => q_lc s fun o t => q_and (q_tR o) (q_ob (z_nth q_rks o.2.1) fun r => q_and (Nat.beq r.1 1) (q_and (Nat.beq r.2.1 ci) (q_and (Nat.blt j r.2.2.1) (q_cw w fun _ b cs _ _ => q_and (q_fok1 ty b cs a) (q_fn (Nat.add r.2.2.2 j) fun p => q_fv (q_unt a) fun a => q_wr m p o.2.2.1 (q_c (Int.ofNat j)) a (fun w => q_fn (Nat.add pc 3) fun pc => K (pc, ls, t, w)) w)))))
noncomputable def q_aLen : qAct := fun K A => q_ca A fun pc ls st w => q_lc st fun o t => q_and (q_tR o) (z_if (Nat.beq o.2.1 90) (q_rd 227 o.2.2.1 (q_c (Int.ofNat 3072)) (fun w a => q_and (q_tI a) (q_fn (Nat.add pc 1) fun pc => K (pc, ls, q_vi a.2.2.1 :: t, w))) w)
  (q_ob (z_nth q_rks o.2.1) fun r => q_and (Nat.beq r.1 0) (q_fn r.2.2.1 fun n => q_fn (Nat.add pc 1) fun pc => K (pc, ls, q_vi (q_c (Int.ofNat n)) :: t, w))))
noncomputable def q_aLda (ok : Nat → Bool) : qAct := fun K A => q_ca A fun pc ls st w => q_lc st fun i s => q_lc s fun o t => q_and (q_tR o) (q_and (q_tI i) (q_ob (z_nth q_rks o.2.1) fun r => q_and (Nat.beq r.1 0) (q_and (ok r.2.1)
  (z_if (Nat.beq o.2.1 90)
    (q_rd 227 o.2.2.1 (q_c (Int.ofNat 3072)) (fun w n => q_and (q_tI n) (q_cw w fun _ b cs _ _ => q_and (q_pr b cs i.2.2.1) (q_and (q_pr b cs (q_pl (q_sub n.2.2.1 i.2.2.1) (Int.negSucc 0))) (q_rd 227 o.2.2.1 i.2.2.1 (fun w a => q_fn (Nat.add pc 1) fun pc => K (pc, ls, a :: t, w)) w)))) w)
    (q_cw w fun _ b cs _ _ => q_and (q_pr b cs i.2.2.1) (q_and (q_pr b cs (q_pl (q_ng i.2.2.1) (Int.sub (Int.ofNat r.2.2.1) (Int.ofNat 1)))) (q_fn r.2.2.2 fun p => q_rd p o.2.2.1 i.2.2.1 (fun w a => q_fn (Nat.add pc 1) fun pc => K (pc, ls, a :: t, w)) w)))))))
noncomputable def q_sto (m : Nat) (r : Nat × Nat × Nat × Nat) (c i : qL) (a : qV) (k : qW → Bool) (w : qW) : Bool := q_cw w fun _ b cs _ _ => q_and (q_pr b cs i) (q_and (q_pr b cs (q_pl (q_ng i) (Int.sub (Int.ofNat r.2.2.1) (Int.ofNat 1)))) (q_fn r.2.2.2 fun p => q_wr m p c i a k w))
noncomputable def q_aSto (m : Nat) (f : Nat → qV → (qW → qV → Bool) → qW → Bool) : qAct := fun K A => q_ca A fun pc ls st w => q_lc st fun a s => q_lc s fun i s => q_lc s fun o t => q_and (q_tR o) (q_and (q_tI i) (q_ob (z_nth q_rks o.2.1) fun r => q_and (Nat.beq r.1 0) (q_and (q_not (Nat.beq o.2.1 90)) (f r.2.1 a (fun w a => q_sto m r o.2.2.1 i.2.2.1 a (fun w => q_fn (Nat.add pc 1) fun pc => K (pc, ls, t, w)) w) w))))
noncomputable def q_si (ty : Nat) (a : qV) (k : qW → qV → Bool) (w : qW) : Bool := q_and (Nat.beq ty 0) (q_and (q_tI a) (k w a))
noncomputable def q_sl (ty : Nat) (a : qV) (k : qW → qV → Bool) (w : qW) : Bool := q_and (Nat.beq ty 3) (q_and (q_tL a) (k w a))
noncomputable def q_sa (ty : Nat) (a : qV) (k : qW → qV → Bool) (w : qW) : Bool := q_and (Nat.beq ty 4) (q_and (q_tR a) (q_and (Nat.beq a.2.1 10) (k w a)))
noncomputable def q_sb' (ty : Nat) (a : qV) (k : qW → qV → Bool) (w : qW) : Bool := q_and (q_tI a) (z_if (Nat.beq ty 1) (q_nar (Int.negSucc 127) (Int.ofNat 127) a.2.2.1 (fun w l => k w (q_vi l)) w) (z_if (Nat.beq ty 2) (q_nar (Int.ofNat 0) (Int.ofNat 1) a.2.2.1 (fun w l => k w (q_vi l)) w) false))
/-! patterns -/
abbrev qI : Type := Nat × Nat × qL × qL × qL × List (Option qL)
abbrev qP : Type := List qI × qB × List qL × List qFa × List qGh
abbrev qLf : Type := qP × Option qV
abbrev qCut : Type := Nat × Nat × qP × List (Nat × qV) × qL
/-- method, own vars, entry, arguments, places that it may change, depth, ends, cuts, words at places -/
abbrev qCon : Type := Nat × Nat × qP × List qV × Nat × qL × List qLf × List qCut × List (Nat × List Nat)
noncomputable def q_sbt (σ : List qL) (ts : List (Nat × Int)) : qL → (qL → Bool) → Bool := List.rec (motive := fun _ => qL → (qL → Bool) → Bool) (fun acc k => q_fl acc k) (fun q _ ih acc k => q_ob (z_nth σ (Prod.fst q)) fun x => ih (q_add (q_sc (Prod.snd q) x) acc) k) ts
noncomputable def q_sb (σ : List qL) (l : qL) (k : qL → Bool) : Bool := q_sbt σ l.2 (l.1, []) k
noncomputable def q_sbv (σ : List qL) (a : qV) (k : qV → Bool) : Bool := q_fn a.1 fun t => q_fn a.2.1 fun r => q_sb σ a.2.2.1 fun l => q_sb σ a.2.2.2 fun m => k (t, r, l, m)
noncomputable def q_sbs (σ : List qL) (ls : List qL) : (List qL → Bool) → Bool := List.rec (motive := fun _ => (List qL → Bool) → Bool) (fun k => k []) (fun l _ ih k => q_sb σ l fun l => ih fun t => k (l :: t)) ls
noncomputable def q_snoc (σ : List qL) (l : qL) : List qL := z_cat2 σ [l]
/-- the args of a ghost, where the pattern leaves them open -/
noncomputable def q_gop (b : qB) (σ : List qL) (ps : List (Option qL)) : List qL → List qL → Option (List qL) := List.rec (motive := fun _ => List qL → List qL → Option (List qL)) (fun as acc => z_if (z_nil as) (some acc) none)
  (fun p _ ih as acc => z_lc as fun a as => Option.rec (motive := fun _ => Option (List qL)) (ih as (q_snoc acc a)) (fun l => z_if (q_sb σ l fun l => q_eq b l a) (ih as acc) none) p) ps
noncomputable def q_gfd (b : qB) (σ : List qL) (g : Nat) (ps : List (Option qL)) (gs : List qGh) : Option (List qL) := List.rec (motive := fun _ => Option (List qL)) none (fun h _ ih => z_if (Nat.beq (Prod.fst h) g) (Option.rec (motive := fun _ => Option (List qL)) ih (fun r => some r) (q_gop b σ ps (Prod.snd h) [])) ih) gs
noncomputable def q_fls (ls : List qL) : (List qL → Bool) → Bool := List.rec (motive := fun _ => (List qL → Bool) → Bool) (fun k => k []) (fun l _ ih k => q_fl l fun l => ih fun t => k (l :: t)) ls
noncomputable def q_sco (n : Nat) (l : qL) : Bool := q_all (fun q => Nat.blt (Prod.fst q) n) l.2
/-- a read of a cell that is known, at a place that is there -/
noncomputable def q_rdk (p : Nat) (c i : qL) (k : qW → qV → Bool) (w : qW) : Bool := q_and (z_nil c.2) (q_and (q_nn c.1) (q_ob (z_nth q_regs (Int.toNat c.1)) fun r => q_ob (z_nth q_rks r) fun t => q_cw w fun n b cs _ _ => q_and (q_sco n i)
  (z_if (Nat.beq t.1 1) (q_and (z_nil i.2) (q_and (q_nn i.1) (q_and (Nat.blt (Int.toNat i.1) t.2.2.1) (q_and (Nat.beq (Nat.add t.2.2.2 (Int.toNat i.1)) p) (q_rd p c i k w)))))
    (q_and (Nat.beq t.1 0) (q_and (Nat.beq t.2.2.2 p) (q_and (q_pr b cs i) (q_and (q_pr b cs (q_pl (q_ng i) (Int.sub (Int.ofNat t.2.2.1) (Int.ofNat 1)))) (q_rd p c i k w))))))))
noncomputable def q_sg (vals : List (Nat × qV)) (k : qW → List qL → Bool) (is : List qI) : qW → List qL → Bool := List.rec (motive := fun _ => qW → List qL → Bool) k (fun it _ ih w σ =>
  z_if (Nat.beq it.1 0) (q_ob (q_get vals it.2.1) fun a => q_sb σ it.2.2.1 fun x => q_fl (q_sub a.2.2.1 x) fun l => q_fls (q_snoc σ l) fun σ => ih w σ)
  (z_if (Nat.beq it.1 1) (q_ob (q_get vals it.2.1) fun a => q_fl (q_quo (Int.ofNat 0, a.2.2.1.2) it.2.2.2.1.1) fun l => q_fls (q_snoc σ l) fun σ => ih w σ)
  (z_if (Nat.beq it.1 2) (q_ob (q_get vals it.2.1) fun a => q_fl (Int.sub a.2.2.1.1 it.2.2.1.1, q_rst it.2.2.2.1.1 a.2.2.1.2) fun l => q_fls (q_snoc σ l) fun σ => ih w σ)
  (z_if (Nat.beq it.1 4) (q_sb σ it.2.2.1 fun c => q_sb σ it.2.2.2.1 fun i => q_rdk it.2.1 c i (fun w _ => ih w σ) w)
  (z_if (Nat.beq it.1 5) (q_sb σ it.2.2.1 fun c => q_sb σ it.2.2.2.1 fun i => q_cw w fun _ b _ fs _ => q_ob (q_find b it.2.1 c i fs) fun a => q_sb σ it.2.2.2.2.1 fun x => q_fl (q_sub a.2.2.1 x) fun l => q_fls (q_snoc σ l) fun σ => ih w σ)
    (q_cw w fun _ b _ _ gs => q_ob (q_gfd b σ it.2.1 it.2.2.2.2.2 gs) fun as => q_fls (z_cat2 σ as) fun σ => ih w σ)))))) is
/-- pattern a, a found value c -/
noncomputable def q_mv (b : qB) (cs : List qL) (a c : qV) : Bool :=
  z_if (Nat.beq a.1 0) true (z_if (Nat.beq a.1 1) (q_and (q_tI c) (q_eq2 b cs a.2.2.1 c.2.2.1)) (z_if (Nat.beq a.1 2) (q_and (q_tL c) (q_eq2 b cs a.2.2.1 c.2.2.1))
  (z_if (Nat.beq a.1 3) (q_and (q_tR c) (q_and (Nat.beq a.2.1 c.2.1) (q_eq2 b cs a.2.2.1 c.2.2.1)))
  (z_if (Nat.beq a.1 4) (q_and (Nat.beq c.1 4) (q_and (q_eq2 b cs a.2.2.1 c.2.2.1) (q_eq2 b cs a.2.2.2 c.2.2.2))) (q_and (Nat.beq a.1 6) (q_and (Nat.beq c.1 6) (Nat.beq a.2.1 c.2.1)))))))
noncomputable def q_geq (b : qB) (xs : List qL) : List qL → Bool := List.rec (motive := fun _ => List qL → Bool) (fun ys => z_nil ys) (fun x _ ih ys => q_lc ys fun y ys => q_and (q_eq b x y) (ih ys)) xs
noncomputable def q_ghas (b : qB) (g : Nat) (as : List qL) (gs : List qGh) : Bool := q_any (fun h => q_and (Nat.beq (Prod.fst h) g) (q_geq b as (Prod.snd h))) gs
noncomputable def q_pm (σ : List qL) (P : qP) (w : qW) : Bool := q_cw w fun _ b cs fs gs =>
  q_and (q_all (fun q => q_ob (z_nth σ (Prod.fst q)) fun l => q_win2 b cs l q.2.1 q.2.2) P.2.1)
  (q_and (q_all (fun c => q_sb σ c fun l => q_pr2 b cs l) P.2.2.1)
  (q_and (q_all (fun f => q_sb σ f.2.1 fun c => q_sb σ f.2.2.1 fun i => q_ob (q_find b (Prod.fst f) c i fs) fun a => q_sbv σ f.2.2.2 fun x => q_mv b cs x a) P.2.2.2.1)
    (q_all (fun g => q_sbs σ (Prod.snd g) fun as => q_ghas b (Prod.fst g) as gs) P.2.2.2.2)))
noncomputable def q_mvs (σ : List qL) (vals : List (Nat × qV)) (ps : List (Nat × qV)) (w : qW) : Bool := q_cw w fun _ b cs _ _ => q_all (fun q => q_sbv σ (Prod.snd q) fun x => q_ob (q_get vals (Prod.fst q)) fun a => q_mv b cs x a) ps
/-! calls -/
noncomputable def q_num (as : List qV) : Nat → List (Nat × qV) := List.rec (motive := fun _ => Nat → List (Nat × qV)) (fun _ => []) (fun a _ ih k => (k, a) :: ih (Nat.succ k)) as
noncomputable def q_mvl (σ : List qL) (b : qB) (cs : List qL) (ps : List qV) : List qV → Bool := List.rec (motive := fun _ => List qV → Bool) (fun as => z_nil as) (fun p _ ih as => q_lc as fun a as => q_and (q_sbv σ p fun x => q_mv b cs x a) (ih as)) ps
noncomputable def q_isv (j : Nat) (l : qL) : Bool := q_and (q_is0 l.1) (q_lc l.2 fun q t => q_and (z_nil t) (q_and (Nat.beq (Prod.fst q) j) (q_is0 (Int.sub (Prod.snd q) (Int.ofNat 1)))))
/-- what is known already of an end's var: an unchanged place -/
noncomputable def q_lrn (m j : Nat) (σ : List qL) (b : qB) (fs : List qFa) (lf : List qFa) (k1 : qL → Bool) (k0 : Bool) : Bool := List.rec (motive := fun _ => Bool) k0 (fun f _ ih =>
  z_if (q_and (q_not (Nat.testBit m (Prod.fst f))) (q_and (q_or (Nat.beq f.2.2.2.1 1) (Nat.beq f.2.2.2.1 2)) (q_isv j f.2.2.2.2.2.1)))
    (q_sb σ f.2.1 fun c => q_sb σ f.2.2.1 fun i => Option.rec (motive := fun _ => Bool) ih (fun a => z_if (Nat.beq a.1 f.2.2.2.1) (q_fl a.2.2.1 k1) ih) (q_find b (Prod.fst f) c i fs)) ih) lf
noncomputable def q_lv (m : Nat) (σ0 : List qL) (fs lf : List qFa) (k : Nat → qB → List qL → List qL → Bool) (bs : qB) : Nat → qB → List qL → List qL → Bool := List.rec (motive := fun _ => Nat → qB → List qL → List qL → Bool) k (fun q _ ih n b σ ex =>
  q_and (Nat.beq (Prod.fst q) (List.length σ)) (q_fi q.2.1 fun lo => q_fi q.2.2 fun hi =>
  q_lrn m (Prod.fst q) σ0 b fs lf (fun l => q_fls (q_snoc σ l) fun σ => ih n b σ (q_pl l (Int.neg lo) :: q_pl (q_ng l) hi :: ex))
    (z_if (q_is0 (Int.sub hi lo)) (q_fls (q_snoc σ (q_c lo)) fun σ => ih n b σ ex) (q_fn (Nat.succ n) fun n1 => q_fls (q_snoc σ (q_v n)) fun σ => ih n1 ((n, lo, hi) :: b) σ ex)))) bs
noncomputable def q_mflt (m : Nat) (fs : List qFa) : (List qFa → Bool) → Bool := List.rec (motive := fun _ => (List qFa → Bool) → Bool) (fun k => k []) (fun f _ ih k => z_if (Nat.testBit m (Prod.fst f)) (ih k) (ih fun t => k (f :: t))) fs
noncomputable def q_gflt (m : Nat) (gs : List qGh) : (List qGh → Bool) → Bool := List.rec (motive := fun _ => (List qGh → Bool) → Bool) (fun k => k []) (fun g _ ih k => q_ob (z_nth q_gfs (Prod.fst g)) fun x => z_if (Nat.beq (Nat.land x m) 0) (ih fun t => k (g :: t)) (ih k)) gs
noncomputable def q_adf (σ : List qL) (b : qB) (fs0 : List qFa) (lf : List qFa) : List qFa → (List qFa → Bool) → Bool := List.rec (motive := fun _ => List qFa → (List qFa → Bool) → Bool) (fun acc k => k acc) (fun f _ ih acc k => q_sb σ f.2.1 fun c => q_sb σ f.2.2.1 fun i => Option.rec (motive := fun _ => Bool) (q_sbv σ f.2.2.2 fun a => ih ((Prod.fst f, c, i, a) :: acc) k) (fun _ => ih acc k) (q_find b (Prod.fst f) c i fs0)) lf
noncomputable def q_adg (σ : List qL) (lg : List qGh) : List qGh → (List qGh → Bool) → Bool := List.rec (motive := fun _ => List qGh → (List qGh → Bool) → Bool) (fun acc k => k acc) (fun g _ ih acc k => q_sbs σ (Prod.snd g) fun as => ih ((Prod.fst g, as) :: acc) k) lg
/-- an end of a call -/
noncomputable def q_leaf (m : Nat) (σ : List qL) (w : qW) (k : qW → Option qV → Bool) (lf : qLf) : Bool := q_cw w fun n b cs fs gs => q_mflt m fs fun fs => q_gflt m gs fun gs =>
  q_lv m σ fs lf.1.2.2.2.1 (fun n b σ2 ex => q_sbs σ2 lf.1.2.2.1 fun cc => q_assk (fun b cs => q_adf σ2 b fs lf.1.2.2.2.1 fs fun fs => q_adg σ2 lf.1.2.2.2.2 gs fun gs =>
    Option.rec (motive := fun _ => Bool) (k (n, b, cs, fs, gs) none) (fun r => q_sbv σ2 r fun r => k (n, b, cs, fs, gs) (some r)) lf.2) (z_cat2 ex cc) b cs) lf.1.2.1 n b σ []
/-- a call by one contract -/
noncomputable def q_call1 (m : Nat) (dl : qL) (as : List qV) (k : qW → Option qV → Bool) (w : qW) (C : qCon) : Bool :=
  q_sg (q_num as 0) (fun w σ => q_cw w fun n b cs _ _ =>
    q_and (q_mvl σ b cs C.2.2.2.1 as) (q_and (q_pm σ C.2.2.1 w) (q_and (q_sb σ C.2.2.2.2.2.1 fun d => q_and (q_pr2 b cs (q_pl d (Int.negSucc 0))) (q_pr2 b cs (q_pl (q_sub dl d) (Int.negSucc 0))))
      (q_and (Nat.beq (Nat.land C.2.2.2.2.1 m) C.2.2.2.2.1) (q_and (q_all (q_sco n) σ) (q_and (Nat.beq (List.length σ) C.2.1)
        (q_all (q_leaf C.2.2.2.2.1 σ w k) C.2.2.2.2.2.2.1))))))) C.2.2.1.1 w []
noncomputable def q_pop (np : Nat) : List qV → List qV → (List qV → List qV → Bool) → Bool := Nat.rec (motive := fun _ => List qV → List qV → (List qV → List qV → Bool) → Bool) (fun as st k => k as st) (fun _ ih as st k => q_lc st fun v t => ih (v :: as) t k) np
noncomputable def q_cat (a : qV) : Nat := z_if (q_or (q_c1 a) (Nat.beq a.1 6)) 1 2
noncomputable def q_sum (st : List qV) : Nat := List.rec (motive := fun _ => Nat) 0 (fun a _ ih => Nat.add (q_cat a) ih) st
noncomputable def q_aCall (kind ci np : Nat) (m : Nat) (dl : qL) (Cs : List qCon) : qAct := fun K A => q_ca A fun pc ls st w => q_pop np [] st fun as t => q_and (Nat.ble (q_sum t) 8)
  (q_and (z_if (Nat.beq kind 2) true (q_lc as fun o _ => z_if (Nat.beq ci 100) (q_and (Nat.beq o.1 6) (Nat.beq o.2.1 0)) (q_and (q_tR o) (z_if (Nat.beq kind 1) true (q_ob (z_nth q_rks o.2.1) fun r => q_and (Nat.beq r.1 1) (Nat.beq r.2.1 ci))))))
    (q_any (q_call1 m dl as (fun w r => q_fn (Nat.add pc 3) fun pc => Option.rec (motive := fun _ => Bool) (K (pc, ls, t, w)) (fun a => K (pc, ls, a :: t, w)) r) w) Cs))
/-- least and greatest of two -/
noncomputable def q_aMin : qAct := fun K A => q_ca A fun pc ls st w => q_lc st fun b s => q_lc s fun a t => q_and (q_tI a) (q_and (q_tI b) (q_and (Nat.ble (q_sum t) 8) (q_cw w fun _ x _ _ _ => q_rng x a.2.2.1 fun a1 a2 => q_rng x b.2.2.1 fun b1 b2 =>
  q_fi (q_mn a1 b1) fun lo => q_fi (q_mn a2 b2) fun hi => q_fr lo hi (fun l => [q_sub a.2.2.1 l, q_sub b.2.2.1 l]) (fun w l => q_fn (Nat.add pc 3) fun pc => K (pc, ls, q_vi l :: t, w)) w)))
noncomputable def q_aMax : qAct := fun K A => q_ca A fun pc ls st w => q_lc st fun b s => q_lc s fun a t => q_and (q_tI a) (q_and (q_tI b) (q_and (Nat.ble (q_sum t) 8) (q_cw w fun _ x _ _ _ => q_rng x a.2.2.1 fun a1 a2 => q_rng x b.2.2.1 fun b1 b2 =>
  q_fi (q_mx a1 b1) fun lo => q_fi (q_mx a2 b2) fun hi => q_fr lo hi (fun _ => []) (fun w l => q_fn (Nat.add pc 3) fun pc => K (pc, ls, q_vi l :: t, w)) w)))
/-- a row of eighteen cells copied: all of that place is open -/
noncomputable def q_aCpy (m : Nat) : qAct := fun K A => q_ca A fun pc ls st w => q_lc st fun vn s => q_lc s fun vd s => q_lc s fun vk s => q_lc s fun vs s => q_lc s fun vj t =>
  q_and (q_and (q_tI vn) (q_and (q_tI vd) (q_and (q_tI vs) (q_and (q_tR vk) (q_tR vj))))) (q_and (q_and (Nat.beq vk.2.1 11) (Nat.beq vj.2.1 11)) (q_cw w fun n b cs fs gs => q_and (q_and (q_eq b vn.2.2.1 (q_c (Int.ofNat 18))) (q_and (q_eq b vd.2.2.1 q_0) (q_eq b vs.2.2.1 q_0)))
    (q_and (Nat.ble (q_sum t) 8) (q_and (Nat.testBit m 43) (q_mflt 8796093022208 fs fun fs => q_gflt 8796093022208 gs fun gs => q_fn (Nat.add pc 3) fun pc => K (pc, ls, t, (n, b, cs, fs, gs)))))))
noncomputable def q_aAbs : qAct := fun K A => q_ca A fun pc ls st w => q_lc st fun a t => q_and (q_tI a) (q_and (Nat.ble (q_sum t) 8) (q_any0 (fun w l => q_fn (Nat.add pc 3) fun pc => K (pc, ls, q_vi l :: t, w)) w))
/-- the signs: a text and its bytes -/
noncomputable def q_aGetS (j : Nat) : qAct := fun K A => q_ca A fun pc ls st w => q_lc st fun o t => q_and (Nat.beq o.1 6) (q_and (Nat.beq o.2.1 0) (q_fn (Nat.add pc 3) fun pc => z_if (Nat.beq j 0) (K (pc, ls, (6, 1, q_0, q_0) :: t, w)) (K (pc, ls, q_vi q_0 :: t, w))))
noncomputable def q_aLen' : qAct := fun K A => q_ca A fun pc ls st w => q_lc st fun o t => z_if (q_and (Nat.beq o.1 6) (Nat.beq o.2.1 1)) (q_fn (Nat.add pc 1) fun pc => K (pc, ls, q_vi (Int.ofNat 11, []) :: t, w)) (q_aLen K (pc, ls, o :: t, w))
noncomputable def q_aLdb : qAct := fun K A => q_ca A fun pc ls st w => q_lc st fun i s => q_lc s fun o t => z_if (q_and (Nat.beq o.1 6) (Nat.beq o.2.1 1))
  (q_and (q_tI i) (q_cw w fun _ b cs _ _ => q_and (q_win b cs i.2.2.1 (Int.ofNat 0) (Int.ofNat 10)) (q_fr (Int.ofNat 37) (Int.ofNat 62) (fun _ => []) (fun w l => q_fn (Nat.add pc 1) fun pc => K (pc, ls, q_vi l :: t, w)) w)))
  (q_aLda (fun ty => q_or (Nat.beq ty 1) (Nat.beq ty 2)) K (pc, ls, i :: o :: t, w))
