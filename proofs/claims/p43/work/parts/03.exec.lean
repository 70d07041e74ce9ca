/-! the executor: an abstract machine over script values that are not known, evaluated by the kernel. It is written with recursors: the kernel pays for every match. -/
noncomputable abbrev z_if {α : Type} (b : Bool) (x y : α) : α := Bool.rec (motive := fun _ => α) y x b
noncomputable abbrev z_ob {α β : Type} (o : Option α) (f : α → Option β) : Option β := Option.rec (motive := fun _ => Option β) none f o
noncomputable abbrev z_lc {α β : Type} (l : List α) (f : α → List α → Option β) : Option β := List.rec (motive := fun _ => Option β) none (fun a t _ => f a t) l
abbrev zV : Type := Value ⊕ (Nat ⊕ ((Nat → Int32) → Int32))
abbrev zK : Type := (Nat × Nat × List (Nat × zV)) ⊕ (Nat × List zV)
abbrev zC : Type := Option zK
abbrev zB : Type := List (Nat × Nat × List Nat)
abbrev zL : Type := List (Nat × zV)
/-- cells in a tree of a fixed depth -/
def zT (n : Nat) : Type := Nat.rec zC (fun _ T => T × T) n
abbrev zH : Type := Nat × zT 8
abbrev zE : Type := Nat × Instr × Nat × Nat × Nat
abbrev zF : Type := Nat × zL × List zV × zH × Nat × Nat
abbrev zR : Type := zB × Option zV × zH
abbrev zM : Type := MethodName × ByteArray × Nat × Option FieldType × Nat × Nat × Nat × Nat × List zE
abbrev zO : Type := (zB × zF) ⊕ (List (zB × zF) ⊕ (zR ⊕ (Nat × List zV × List zV)))
abbrev zA : Type := zB → zF → Option zO
def zm_y (M : zM) : MethodName := M.1
def zm_b (M : zM) : ByteArray := M.2.1
def zm_L (M : zM) : Nat := M.2.2.1
def zm_r (M : zM) : Option FieldType := M.2.2.2.1
def zm_mc (M : zM) : Nat := M.2.2.2.2.1
def zm_ms (M : zM) : Nat := M.2.2.2.2.2.1
def zm_np (M : zM) : Nat := M.2.2.2.2.2.2.1
def zm_ci (M : zM) : Nat := M.2.2.2.2.2.2.2.1
def zm_c (M : zM) : List zE := M.2.2.2.2.2.2.2.2
abbrev z_SCR : Nat := 1000000
abbrev z_STR : Nat := 1000001
abbrev z_STV : Nat := 1000002
abbrev z_STR2 : Nat := 1000003
abbrev z_STV2 : Nat := 1000004
noncomputable def z_nth {α : Type} (l : List α) : Nat → Option α := List.rec (motive := fun _ => Nat → Option α) (fun _ => none) (fun a _ ih k => Nat.rec (motive := fun _ => Option α) (some a) (fun j _ => ih j) k) l
noncomputable def z_lst {α : Type} (l : List α) (v : α) : Nat → List α := List.rec (motive := fun _ => Nat → List α) (fun _ => []) (fun a t ih k => Nat.rec (motive := fun _ => List α) (v :: t) (fun j _ => a :: ih j) k) l
/-! the tree -/
noncomputable def z_tg (n : Nat) : zT n → Nat → zC := Nat.rec (motive := fun n => zT n → Nat → zC) (fun c _ => c) (fun m ih t k => ih (z_if (Nat.beq (Nat.mod k 2) 0) (Prod.fst (α := zT m) (β := zT m) t) (Prod.snd (α := zT m) (β := zT m) t)) (Nat.div k 2)) n
noncomputable def z_ts (n : Nat) : zT n → Nat → zC → zT n := Nat.rec (motive := fun n => zT n → Nat → zC → zT n) (fun _ _ c => c) (fun m ih t k c => z_if (α := zT m × zT m) (Nat.beq (Nat.mod k 2) 0) (ih (Prod.fst (α := zT m) (β := zT m) t) (Nat.div k 2) c, Prod.snd (α := zT m) (β := zT m) t) (Prod.fst (α := zT m) (β := zT m) t, ih (Prod.snd (α := zT m) (β := zT m) t) (Nat.div k 2) c)) n
noncomputable def z_t0 (n : Nat) : zT n := Nat.rec (motive := fun n => zT n) (none : zC) (fun _ t => (t, t)) n
noncomputable def z_hg (H : zH) (k : Nat) : zC := z_tg 8 H.2 k
noncomputable def z_hs (H : zH) (k : Nat) (c : zC) : zH := (H.1, z_ts 8 H.2 k c)
noncomputable def z_hp (H : zH) (c : zC) : zH := (Nat.succ H.1, z_ts 8 H.2 H.1 c)
/-- a list of cells as a heap -/
noncomputable def z_hl (l : List zC) : zH := (l.foldl z_hp ((0 : Nat), z_t0 8))
/-! values -/
noncomputable def z_cI (v : zV) : Option Int32 := Sum.rec (motive := fun _ => Option Int32) (fun w => Value.rec (motive := fun _ => Option Int32) (fun k => some k) (fun _ => none) (fun _ => none) (fun _ => none) none (fun _ => none) (fun _ => none) w) (fun _ => none) v
noncomputable def z_cL (v : zV) : Option Int64 := Sum.rec (motive := fun _ => Option Int64) (fun w => Value.rec (motive := fun _ => Option Int64) (fun _ => none) (fun k => some k) (fun _ => none) (fun _ => none) none (fun _ => none) (fun _ => none) w) (fun _ => none) v
noncomputable def z_cR (v : zV) : Option Nat := Sum.rec (motive := fun _ => Option Nat) (fun w => Value.rec (motive := fun _ => Option Nat) (fun _ => none) (fun _ => none) (fun _ => none) (fun _ => none) none (fun k => some k) (fun _ => none) w) (fun _ => none) v
noncomputable def z_cV (v : zV) : Option Nat := Sum.rec (motive := fun _ => Option Nat) (fun _ => none) (fun w => Sum.rec (motive := fun _ => Option Nat) (fun i => some i) (fun _ => none) w) v
noncomputable def z_isI (v : zV) : Bool := Sum.rec (motive := fun _ => Bool) (fun w => Value.rec (motive := fun _ => Bool) (fun _ => true) (fun _ => false) (fun _ => false) (fun _ => false) false (fun _ => false) (fun _ => false) w) (fun _ => true) v
noncomputable def z_isA (v : zV) : Bool := Sum.rec (motive := fun _ => Bool) (fun w => Value.rec (motive := fun _ => Bool) (fun _ => false) (fun _ => false) (fun _ => false) (fun _ => false) true (fun _ => true) (fun _ => false) w) (fun _ => false) v
noncomputable def z_isL (v : zV) : Bool := Sum.rec (motive := fun _ => Bool) (fun w => Value.rec (motive := fun _ => Bool) (fun _ => false) (fun _ => true) (fun _ => false) (fun _ => false) false (fun _ => false) (fun _ => false) w) (fun _ => false) v
noncomputable def z_cat (v : zV) : Nat := Sum.rec (motive := fun _ => Nat) (fun w => Value.rec (motive := fun _ => Nat) (fun _ => 1) (fun _ => 2) (fun _ => 1) (fun _ => 2) 1 (fun _ => 1) (fun _ => 1) w) (fun _ => 1) v
def z_I (ρ : Nat → Int32) (v : zV) : Int32 := match v with
  | .inl (.int k) => k
  | .inr (.inl i) => ρ i
  | .inr (.inr f) => f ρ
  | _ => 0
/-- an int as a number that keeps the order -/
def z_n (x : Int32) : Nat := Nat.mod (Nat.add x.toBitVec.toNat 2147483648) 4294967296
def z_un (n : Nat) : Int32 := Int32.ofNat (Nat.mod (Nat.add n 2147483648) 4294967296)
/-- a number, worked out -/
noncomputable abbrev z_frc {α : Type} (x : Int32) (k : Int32 → α) : α := Nat.rec (motive := fun _ => α) (k (Int32.ofNat 0)) (fun m _ => k (Int32.ofNat (Nat.succ m))) x.toBitVec.toNat
noncomputable def z_op2 (f : Int32 → Int32 → Int32) (a b : zV) : Option zV :=
  Option.rec (motive := fun _ => Option zV) (z_if (z_isI a) (z_if (z_isI b) (some (.inr (.inr fun ρ => f (z_I ρ a) (z_I ρ b)))) none) none)
    (fun x => Option.rec (motive := fun _ => Option zV) (z_if (z_isI b) (some (.inr (.inr fun ρ => f x (z_I ρ b)))) none) (fun y => z_frc (f x y) fun z => some (.inl (.int z))) (z_cI b)) (z_cI a)
noncomputable def z_op1 (f : Int32 → Int32) (a : zV) : Option zV :=
  Option.rec (motive := fun _ => Option zV) (z_if (z_isI a) (some (.inr (.inr fun ρ => f (z_I ρ a)))) none) (fun x => z_frc (f x) fun z => some (.inl (.int z))) (z_cI a)
noncomputable def z_is0 (v : zV) : Bool := Option.rec (motive := fun _ => Bool) false (fun x => Nat.beq x.toBitVec.toNat 0) (z_cI v)
noncomputable def z_add (a b : zV) : Option zV := z_if (z_is0 a) (z_if (z_isI b) (some b) none) (z_if (z_is0 b) (z_if (z_isI a) (some a) none) (z_op2 (· + ·) a b))
noncomputable def z_get (ls : zL) (i : Nat) : Option zV := List.rec (motive := fun _ => Option zV) none (fun q _ ih => z_if (Nat.beq (Prod.fst q) i) (some (Prod.snd q)) ih) ls
noncomputable def z_put1 (ls : zL) (i : Nat) (v : zV) : zL := (i, v) :: List.rec (motive := fun _ => zL) [] (fun q _ ih => z_if (Nat.beq (Prod.fst q) i) ih (z_if (Nat.beq (Nat.succ (Prod.fst q)) i) (z_if (Nat.beq (z_cat (Prod.snd q)) 2) ih (q :: ih)) (q :: ih))) ls
noncomputable def z_put2 (ls : zL) (i : Nat) (v : zV) : zL := (i, v) :: List.rec (motive := fun _ => zL) [] (fun q _ ih => z_if (Nat.beq (Prod.fst q) i) ih (z_if (Nat.beq (Prod.fst q) (Nat.succ i)) ih (z_if (Nat.beq (Nat.succ (Prod.fst q)) i) (z_if (Nat.beq (z_cat (Prod.snd q)) 2) ih (q :: ih)) (q :: ih)))) ls
/-! boxes: from lo on, below hi, not one of a list -/
def z_neg (r : ClassFile.Cond) : ClassFile.Cond := match r with
  | .eq => .ne | .ne => .eq | .lt => .ge | .ge => .lt | .gt => .le | .le => .gt
def z_flip (r : ClassFile.Cond) : ClassFile.Cond := match r with
  | .eq => .eq | .ne => .ne | .lt => .gt | .ge => .le | .gt => .lt | .le => .ge
noncomputable def z_cmp (r : ClassFile.Cond) (x y : Nat) : Bool := ClassFile.Cond.rec (motive := fun _ => Bool) (Nat.beq x y) (z_if (Nat.beq x y) false true) (Nat.blt x y) (Nat.ble y x) (Nat.blt y x) (Nat.ble x y) r
noncomputable abbrev z_max (a b : Nat) : Nat := z_if (Nat.ble a b) b a
noncomputable abbrev z_min (a b : Nat) : Nat := z_if (Nat.ble a b) a b
noncomputable def z_has (ex : List Nat) (c : Nat) : Bool := List.rec (motive := fun _ => Bool) false (fun a _ ih => z_if (Nat.beq a c) true ih) ex
/-- up over what is left out -/
noncomputable def z_lo (ex : List Nat) (n : Nat) : Nat → Nat := Nat.rec (motive := fun _ => Nat → Nat) (fun lo => lo) (fun _ ih lo => z_if (z_has ex lo) (ih (Nat.succ lo)) lo) n
noncomputable def z_hi (ex : List Nat) (n : Nat) : Nat → Nat := Nat.rec (motive := fun _ => Nat → Nat) (fun hi => hi) (fun _ ih hi => z_if (z_has ex (Nat.pred hi)) (ih (Nat.pred hi)) hi) n
noncomputable def z_rb (r : ClassFile.Cond) (c : Nat) (b : Nat × Nat × List Nat) : Nat × Nat × List Nat := ClassFile.Cond.rec (motive := fun _ => Nat × Nat × List Nat)
  (z_max b.1 c, z_min b.2.1 (Nat.succ c), b.2.2) (b.1, b.2.1, c :: b.2.2) (b.1, z_min b.2.1 c, b.2.2) (z_max b.1 c, b.2.1, b.2.2) (z_max b.1 (Nat.succ c), b.2.1, b.2.2) (b.1, z_min b.2.1 (Nat.succ c), b.2.2) r
noncomputable def z_nb (b : Nat × Nat × List Nat) : Option (Nat × Nat × List Nat) :=
  z_if (Nat.ble (z_hi b.2.2 6 b.2.1) (z_lo b.2.2 6 b.1)) none (some (z_lo b.2.2 6 b.1, z_hi b.2.2 6 b.2.1, b.2.2))
/-- the box where var i stands so to c; none: there is nothing -/
noncomputable def z_rf (r : ClassFile.Cond) (i c : Nat) (β : zB) : Option zB := Option.rec (motive := fun _ => Option zB) (some β) (fun b => z_ob (z_nb (z_rb r c b)) fun b' => some (z_lst β b' i)) (z_nth β i)
noncomputable def z_two (x y : Option zB) : List (Bool × zB) := Option.rec (motive := fun _ => List (Bool × zB)) (Option.rec (motive := fun _ => List (Bool × zB)) [] (fun b => [(false, b)]) y) (fun a => Option.rec (motive := fun _ => List (Bool × zB)) [(true, a)] (fun b => [(true, a), (false, b)]) y) x
noncomputable def z_split (r : ClassFile.Cond) (a b : zV) (β : zB) : List (Bool × zB) :=
  Option.rec (motive := fun _ => List (Bool × zB))
    (Option.rec (motive := fun _ => List (Bool × zB)) [(true, β), (false, β)]
      (fun i => Option.rec (motive := fun _ => List (Bool × zB))
        (Option.rec (motive := fun _ => List (Bool × zB)) [(true, β), (false, β)] (fun j => z_if (Nat.beq i j) [(z_cmp r 0 0, β)] [(true, β), (false, β)]) (z_cV b))
        (fun y => z_two (z_rf r i (z_n y) β) (z_rf (z_neg r) i (z_n y) β)) (z_cI b)) (z_cV a))
    (fun x => Option.rec (motive := fun _ => List (Bool × zB))
      (Option.rec (motive := fun _ => List (Bool × zB)) [(true, β), (false, β)] (fun i => z_two (z_rf (z_flip r) i (z_n x) β) (z_rf (z_neg (z_flip r)) i (z_n x) β)) (z_cV b))
      (fun y => [(z_cmp r (z_n x) (z_n y), β)]) (z_cI b)) (z_cI a)
/-- a var with a small box, wanted as a number: where to cut -/
noncomputable def z_cut (v : zV) (β : zB) : Option (Nat × Nat) := z_ob (z_cV v) fun i => z_ob (z_nth β i) fun b => z_if (Nat.ble b.2.1 (Nat.add b.1 65)) (z_if (Nat.ble b.2.1 (Nat.succ b.1)) none (some (i, b.1))) none
/-- a var whose box is one number -/
noncomputable def z_rs (β : zB) (v : zV) : zV := Option.rec (motive := fun _ => zV) v (fun i => Option.rec (motive := fun _ => zV) v (fun b => z_if (Nat.beq b.2.1 (Nat.succ b.1)) (.inl (.int (z_un b.1))) v) (z_nth β i)) (z_cV v)
/-! actions -/
noncomputable def z_cutA (q : Nat × Nat) (β : zB) (F : zF) : Option zO := some (.inr (.inl ((z_two (z_rf .eq q.1 q.2 β) (z_rf .ne q.1 q.2 β)).map fun x => (x.2, F))))
/-- cut the box, where v is a var with a small one; else go on -/
noncomputable def z_want (v : zV) (β : zB) (F : zF) (k : zV → Option zO) : Option zO := Option.rec (motive := fun _ => Option zO) (k (z_rs β v)) (fun q => z_cutA q β F) (z_cut v β)
noncomputable def z_go (β : zB) (F : zF) (n : Nat) (st : List zV) : Option zO := some (.inl (β, (Nat.add F.1 n, F.2.1, st, F.2.2.2)))
noncomputable def z_goL (β : zB) (F : zF) (n : Nat) (ls : zL) (st : List zV) : Option zO := some (.inl (β, (Nat.add F.1 n, ls, st, F.2.2.2)))
noncomputable def z_goH (β : zB) (F : zF) (n : Nat) (st : List zV) (H : zH) : Option zO := some (.inl (β, (Nat.add F.1 n, F.2.1, st, H, F.2.2.2.2)))
noncomputable def z_aK (n : Nat) (v : zV) : zA := fun β F => z_go β F n (v :: F.2.2.1)
noncomputable def z_aLd (n i : Nat) (ok : zV → Bool) : zA := fun β F => z_ob (z_get F.2.1 i) fun v => z_if (ok v) (z_go β F n (v :: F.2.2.1)) none
noncomputable def z_isR (v : zV) : Bool := Option.rec (motive := fun _ => Bool) false (fun _ => true) (z_cR v)
noncomputable def z_aSt (n i L : Nat) (ok : zV → Bool) : zA := fun β F => z_lc F.2.2.1 fun v t => z_if (ok v) (z_if (Nat.blt i L) (z_goL β F n (z_put1 F.2.1 i v) t) none) none
noncomputable def z_aSt2 (n i L : Nat) : zA := fun β F => z_lc F.2.2.1 fun v t => z_if (z_isL v) (z_if (Nat.blt (Nat.succ i) L) (z_goL β F n (z_put2 F.2.1 i v) t) none) none
noncomputable def z_aInc (i L : Nat) (k : Int32) : zA := fun β F => z_ob (z_get F.2.1 i) fun v => z_ob (z_op2 (· + ·) v (.inl (.int k))) fun w => z_if (Nat.blt i L) (z_goL β F 3 (z_put1 F.2.1 i w) F.2.2.1) none
noncomputable def z_aBin (f : zV → zV → Option zV) : zA := fun β F => z_lc F.2.2.1 fun b s => z_lc s fun a t => z_want b β F fun b => z_want a β F fun a => z_ob (f a b) fun c => z_go β F 1 (c :: t)
noncomputable def z_aUn (f : zV → Option zV) : zA := fun β F => z_lc F.2.2.1 fun a t => z_ob (f a) fun c => z_go β F 1 (c :: t)
noncomputable def z_nz (f : Int32 → Int32 → Int32) (a b : zV) : Option zV := z_ob (z_cI b) fun y => z_if (Nat.beq y.toBitVec.toNat 0) none (z_op2 f a (.inl (.int y)))
noncomputable def z_lop (f : Int64 → Int64 → Int64) (a b : zV) : Option zV := z_ob (z_cL a) fun x => z_ob (z_cL b) fun y => some (.inl (.long (f x y)))
noncomputable def z_lcm (a b : zV) : Option zV := z_ob (z_cL a) fun x => z_ob (z_cL b) fun y => z_frc (lg_cmp x y) fun z => some (.inl (.int z))
noncomputable def z_lsh (a b : zV) : Option zV := z_ob (z_cL a) fun x => z_ob (z_cI b) fun y => some (.inl (.long (x <<< (y.toInt64 &&& 63))))
noncomputable def z_i2l (a : zV) : Option zV := z_ob (z_cI a) fun x => some (.inl (.long x.toInt64))
noncomputable def z_aDup : zA := fun β F => z_lc F.2.2.1 fun a t => z_if (Nat.beq (z_cat a) 1) (z_go β F 1 (a :: a :: t)) none
noncomputable def z_aDup2 : zA := fun β F => z_lc F.2.2.1 fun a s => z_lc s fun b t => z_if (Nat.beq (z_cat a) 1) (z_if (Nat.beq (z_cat b) 1) (z_go β F 1 (a :: b :: a :: b :: t)) none) none
noncomputable def z_aPop : zA := fun β F => z_lc F.2.2.1 fun a t => z_if (Nat.beq (z_cat a) 1) (z_go β F 1 t) none
/-! reads -/
noncomputable def z_in (i : Int32) (n : Nat) : Bool := z_if (Nat.blt i.toBitVec.toNat 2147483648) (Nat.blt i.toBitVec.toNat n) false
noncomputable def z_d (ty : Nat) : zV := z_if (Nat.beq ty 3) (.inl (.long 0)) (z_if (Nat.beq ty 4) (.inl .null) (.inl (.int (Int32.ofNat 0))))
noncomputable def z_el (ty : Nat) (u : List (Nat × zV)) (j : Nat) : zV := Option.rec (motive := fun _ => zV) (z_d ty) (fun v => v) (z_get u j)
noncomputable def z_ins (u : List (Nat × zV)) (j : Nat) (v : zV) : List (Nat × zV) := List.rec (motive := fun _ => List (Nat × zV)) [(j, v)] (fun q t ih => z_if (Nat.beq (Prod.fst q) j) ((j, v) :: t) (q :: ih)) u
def z_txt : List Int32 := [100, 101, 101, 100, 32, 104, 101, 114, 101, 32, 103, 111, 111, 100, 32, 98, 97, 100, 32, 116, 104, 101, 114, 101, 32, 112, 101, 114, 115, 111, 110, 32, 111, 102, 32, 102, 105, 114, 115, 116, 32, 111, 110, 32, 100, 111, 101, 115, 32, 103, 114, 111, 117, 112, 32, 109, 97, 110, 121, 32, 112, 105, 116, 121, 32, 118, 111, 116, 101, 32, 119, 105, 110, 116, 101, 114, 32, 100, 114, 97, 119, 32, 111, 114, 32, 97, 110, 100, 32, 110, 111, 116, 32, 116, 101, 114, 109, 115, 32, 115, 101, 97, 115, 111, 110, 32]
def z_sgn : List Int32 := [59, 40, 41, 60, 62, 61, 43, 45, 42, 47, 37]
noncomputable def z_arr {β : Type} (H : zH) (k : Nat) (f : Nat → Nat → List (Nat × zV) → Option β) : Option β := z_if (Nat.blt k H.1) (z_ob (z_hg H k) fun c => Sum.rec (motive := fun _ => Option β) (fun a => f a.1 a.2.1 a.2.2) (fun _ => none) c) none
noncomputable def z_obj {β : Type} (H : zH) (k : Nat) (f : Nat → List zV → Option β) : Option β := z_if (Nat.blt k H.1) (z_ob (z_hg H k) fun c => Sum.rec (motive := fun _ => Option β) (fun _ => none) (fun o => f o.1 o.2) c) none
noncomputable def z_aGet (ci k : Nat) : zA := fun β F => z_lc F.2.2.1 fun o t => z_ob (z_cR o) fun a => z_obj F.2.2.2.1 a fun c fs => z_if (Nat.beq c ci) (z_ob (z_nth fs k) fun v => z_go β F 3 (v :: t)) none
noncomputable def z_aGetS (k : Nat) : zA := fun β F => z_lc F.2.2.1 fun o t => z_ob (z_cR o) fun a => z_if (Nat.beq a z_STR) (z_go β F 3 (z_if (Nat.beq k 0) (.inl (.ref z_STV)) (.inl (.int 0)) :: t)) (z_if (Nat.beq a z_STR2) (z_go β F 3 (z_if (Nat.beq k 0) (.inl (.ref z_STV2)) (.inl (.int 0)) :: t)) none)
noncomputable def z_aLen (S : Nat → Int32) : zA := fun β F => z_lc F.2.2.1 fun o t => z_ob (z_cR o) fun a => z_if (Nat.beq a z_SCR) (z_go β F 1 (.inl (.int (S 3072)) :: t)) (z_if (Nat.beq a z_STV) (z_go β F 1 (.inl (.int 106) :: t)) (z_if (Nat.beq a z_STV2) (z_go β F 1 (.inl (.int 11) :: t)) (z_arr F.2.2.2.1 a fun ty len _ => z_if (Nat.blt ty 5) (z_go β F 1 (.inl (.int (Int32.ofNat len)) :: t)) none)))
noncomputable def z_ld (t1 t2 : Nat) (ok : zV → Bool) (i : Int32) (k : Nat) (t : List zV) : zA := fun β F => z_arr F.2.2.2.1 k fun ty len u => z_if (z_if (Nat.beq ty t1) true (Nat.beq ty t2)) (z_if (z_in i len) (z_if (ok (z_el ty u i.toBitVec.toNat)) (z_go β F 1 (z_el ty u i.toBitVec.toNat :: t)) none) none) none
noncomputable def z_aIld (S : Nat → Int32) : zA := fun β F => z_lc F.2.2.1 fun v s => z_lc s fun o t => z_want v β F fun v => z_ob (z_cI v) fun i => z_ob (z_cR o) fun a => z_if (Nat.beq a z_SCR) (z_if (z_in i (S 3072).toBitVec.toNat) (z_go β F 1 (.inl (.int (S i.toBitVec.toNat)) :: t)) none) (z_ld 0 0 z_isI i a t β F)
noncomputable def z_aBld : zA := fun β F => z_lc F.2.2.1 fun v s => z_lc s fun o t => z_want v β F fun v => z_ob (z_cI v) fun i => z_ob (z_cR o) fun a => z_if (Nat.beq a z_STV) (z_if (z_in i 106) (z_ob (z_nth z_txt i.toBitVec.toNat) fun x => z_go β F 1 (.inl (.int x) :: t)) none) (z_if (Nat.beq a z_STV2) (z_if (z_in i 11) (z_ob (z_nth z_sgn i.toBitVec.toNat) fun x => z_go β F 1 (.inl (.int x) :: t)) none) (z_ld 1 2 z_isI i a t β F))
noncomputable def z_aXld (ty : Nat) (ok : zV → Bool) : zA := fun β F => z_lc F.2.2.1 fun v s => z_lc s fun o t => z_want v β F fun v => z_ob (z_cI v) fun i => z_ob (z_cR o) fun a => z_ld ty ty ok i a t β F
/-! writes -/
noncomputable def z_fit (ty : FieldType) (v : zV) : Bool := match ty with
  | .int => z_isI v
  | .long => z_isL v
  | .object _ => z_isA v
  | .array _ => z_isA v
  | .boolean => Option.rec (motive := fun _ => Bool) false (fun x => Nat.ble x.toBitVec.toNat 1) (z_cI v)
  | .char => Option.rec (motive := fun _ => Bool) false (fun x => Nat.ble x.toBitVec.toNat 65535) (z_cI v)
  | .byte => Option.rec (motive := fun _ => Bool) false (fun x => Nat.ble x.toBitVec.toNat 127) (z_cI v)
  | _ => false
def z_ty (c : Nat) : Nat → FieldType := match c with
  | 0 => tyX0 | 1 => tyX1 | 2 => tyX2 | 3 => tyX3 | 4 => tyX4 | 5 => tyX5 | 6 => tyX6 | 7 => tyX7 | 8 => tyX8 | 9 => tyX9 | 10 => tyX10 | _ => tyX11
def z_N (c : Nat) : Nat := match c with
  | 0 => 2 | 1 => 3 | 2 => 6 | 3 => 7 | 4 => 3 | 5 => 11 | 6 => 16 | 7 => 8 | 8 => 8 | 9 => 1 | 10 => 14 | _ => 70
def z_new (c : Nat) : List zV := (List.range (z_N c)).map (fun j => .inl (defaultValue (z_ty c j)))
noncomputable def z_aPut (ci k : Nat) (fit : zV → Bool) : zA := fun β F => z_lc F.2.2.1 fun v s => z_lc s fun o t => z_ob (z_cR o) fun a => z_obj F.2.2.2.1 a fun c fs => z_if (Nat.beq c ci) (z_if (fit v) (z_ob (z_nth fs k) fun _ => z_goH β F 3 t (z_hs F.2.2.2.1 a (some (.inr (c, z_lst fs v k))))) none) none
noncomputable def z_sto (g : zH → Nat → zV → Option zV) (v : zV) (i : Int32) (a : Nat) (t : List zV) : zA := fun β F => z_arr F.2.2.2.1 a fun ty len u => z_if (z_in i len) (z_ob (g F.2.2.2.1 ty v) fun w => z_goH β F 1 t (z_hs F.2.2.2.1 a (some (.inl (ty, len, z_ins u i.toBitVec.toNat w))))) none
noncomputable def z_aSto (g : zH → Nat → zV → Option zV) : zA := fun β F => z_lc F.2.2.1 fun v s => z_lc s fun j r => z_lc r fun o t => z_want j β F fun j => z_ob (z_cI j) fun i => z_ob (z_cR o) fun a => z_sto g v i a t β F
noncomputable def z_si (_ : zH) (ty : Nat) (v : zV) : Option zV := z_if (Nat.beq ty 0) (z_if (z_isI v) (some v) none) none
noncomputable def z_sb (_ : zH) (ty : Nat) (v : zV) : Option zV := z_if (Nat.beq ty 1) (z_op1 (vp_nar .byte) v) (z_if (Nat.beq ty 2) (z_op1 (vp_nar .boolean) v) none)
noncomputable def z_sl (_ : zH) (ty : Nat) (v : zV) : Option zV := z_if (Nat.beq ty 3) (z_if (z_isL v) (some v) none) none
noncomputable def z_sa (H : zH) (ty : Nat) (v : zV) : Option zV := z_if (Nat.beq ty 4) (z_ob (z_cR v) fun q => z_obj H q fun c _ => z_if (Nat.beq c 9) (some v) none) none
noncomputable def z_mk (ci ty : Nat) (n : Nat) (c : zC) (len mc ms : Nat) (t : List zV) : zA := fun β F => z_if (Nat.blt F.2.2.2.1.1 256) (z_if (Nat.ble (Nat.succ F.2.2.2.2.1) mc) (z_if (Nat.ble (Nat.add F.2.2.2.2.2 len) ms) (some (.inl (β, (Nat.add F.1 n, F.2.1, .inl (.ref F.2.2.2.1.1) :: t, z_hp F.2.2.2.1 c, Nat.succ F.2.2.2.2.1, Nat.add F.2.2.2.2.2 len)))) none) none) none
noncomputable def z_aMka (n ty mc ms : Nat) : zA := fun β F => z_lc F.2.2.1 fun v t => z_ob (z_cI v) fun i => z_if (Nat.ble i.toBitVec.toNat 60000000) (z_mk 0 ty n (some (.inl (ty, i.toBitVec.toNat, []))) i.toBitVec.toNat mc ms t β F) none
noncomputable def z_aNew (ci mc ms : Nat) : zA := fun β F => z_mk ci 0 3 (some (.inr (ci, z_new ci))) (z_N ci) mc ms F.2.2.1 β F
/-! jumps -/
def z_tgt (pc : Nat) (off : Int) : Nat := ((pc : Int) + off).toNat
noncomputable def z_br (g : Nat) (n : Nat) (t : List zV) (F : zF) (ss : List (Bool × zB)) : Option zO := some (.inr (.inl (ss.map fun q => (q.2, (z_if q.1 g (Nat.add F.1 n), F.2.1, t, F.2.2.2)))))
/-- one way alone: no list -/
noncomputable def z_br1 (g : Nat) (n : Nat) (t : List zV) (β : zB) (F : zF) (b : Bool) : Option zO := some (.inl (β, (z_if b g (Nat.add F.1 n), F.2.1, t, F.2.2.2)))
noncomputable def z_cond (r : ClassFile.Cond) (g : Nat) (a b : zV) (t : List zV) : zA := fun β F =>
  Option.rec (motive := fun _ => Option zO) (z_if (z_isI a) (z_if (z_isI b) (z_br g 3 t F (z_split r a b β)) none) none)
    (fun x => Option.rec (motive := fun _ => Option zO) (z_if (z_isI b) (z_br g 3 t F (z_split r a b β)) none) (fun y => z_br1 g 3 t β F (z_cmp r (z_n x) (z_n y))) (z_cI b)) (z_cI a)
noncomputable def z_aIf (r : ClassFile.Cond) (g : Nat) : zA := fun β F => z_lc F.2.2.1 fun a t => z_cond r g a (.inl (.int (Int32.ofNat 0))) t β F
noncomputable def z_aCmp (r : ClassFile.Cond) (g : Nat) : zA := fun β F => z_lc F.2.2.1 fun b s => z_lc s fun a t => z_cond r g a b t β F
noncomputable def z_aGoto (g : Nat) : zA := fun β F => some (.inl (β, (g, F.2)))
noncomputable def z_aNul (b : Bool) (g : Nat) : zA := fun β F => z_lc F.2.2.1 fun a t => z_ob (z_cR a) fun _ => z_br1 g 3 t β F b
/-- the places of a table, one by one -/
noncomputable def z_tab (a : zV) (t : List zV) (β : zB) (F : zF) (gs : List Nat) : Nat → List (zB × zF) := List.rec (motive := fun _ => Nat → List (zB × zF)) (fun _ => []) (fun g _ ih lo => Option.rec (motive := fun _ => List (zB × zF)) ((β, (g, F.2.1, t, F.2.2.2)) :: ih (Nat.succ lo)) (fun i => Option.rec (motive := fun _ => List (zB × zF)) (ih (Nat.succ lo)) (fun β' => (β', (g, F.2.1, t, F.2.2.2)) :: ih (Nat.succ lo)) (z_rf .eq i lo β)) (z_cV a)) gs
noncomputable def z_dfl (a : zV) (gs : List Nat) : Nat → zB → Option zB := List.rec (motive := fun _ => Nat → zB → Option zB) (fun _ β => some β) (fun _ _ ih lo β => Option.rec (motive := fun _ => Option zB) (some β) (fun i => z_ob (z_rf .ne i lo β) fun β' => ih (Nat.succ lo) β') (z_cV a)) gs
noncomputable def z_tpc (d lo : Nat) (gs : List Nat) (x : Nat) : Nat := z_if (Nat.blt x lo) d (Option.rec (motive := fun _ => Nat) d (fun g => g) (z_nth gs (Nat.sub x lo)))
/-- a table by keys: the value must be known -/
noncomputable def z_aLku (pc : Nat) (d : Int) (ps : List (Int × Int)) : zA := fun β F => z_lc F.2.2.1 fun a t => z_ob (z_cI a) fun x => some (.inl (β, (z_tgt pc (Op.lookupswitch.offset ps d x.toInt), F.2.1, t, F.2.2.2)))
noncomputable def z_aTab (d lo : Nat) (gs : List Nat) : zA := fun β F => z_lc F.2.2.1 fun a t => Option.rec (motive := fun _ => Option zO)
  (z_if (z_isI a) (some (.inr (.inl (Option.rec (motive := fun _ => List (zB × zF)) (z_tab a t β F gs lo) (fun β' => (β', (d, F.2.1, t, F.2.2.2)) :: z_tab a t β F gs lo) (z_dfl a gs lo β))))) none)
  (fun x => some (.inl (β, (z_tpc d lo gs (z_n x), F.2.1, t, F.2.2.2)))) (z_cI a)
/-! returns, calls -/
noncomputable def z_ret (mc ms : Nat) (F : zF) (r : zR) : Option zO := z_if (Nat.beq F.2.2.2.2.1 mc) (z_if (Nat.beq F.2.2.2.2.2 ms) (some (.inr (.inr (.inl r)))) none) none
noncomputable def z_nil {α : Type} (l : List α) : Bool := List.rec (motive := fun _ => Bool) true (fun _ _ _ => false) l
noncomputable def z_aRet (ok : zV → Bool) (mc ms : Nat) : zA := fun β F => z_lc F.2.2.1 fun v t => z_if (ok v) (z_if (z_nil t) (z_ret mc ms F (β, some v, F.2.2.2.1)) none) none
noncomputable def z_aRetV (mc ms : Nat) : zA := fun β F => z_if (z_nil F.2.2.1) (z_ret mc ms F (β, none, F.2.2.2.1)) none
noncomputable def z_sum (st : List zV) : Nat := List.rec (motive := fun _ => Nat) 0 (fun v _ ih => Nat.add (z_cat v) ih) st
noncomputable def z_aObj : zA := fun β F => z_lc F.2.2.1 fun o t => z_ob (z_cR o) fun _ => z_if (Nat.ble (z_sum t) 8) (z_go β F 3 t) none
noncomputable def z_aCpy : zA := fun β F => z_lc F.2.2.1 fun vn s1 => z_lc s1 fun vd s2 => z_lc s2 fun vk s3 => z_lc s3 fun vs s4 => z_lc s4 fun vj t => z_ob (z_cI vn) fun n => z_ob (z_cI vd) fun dp => z_ob (z_cR vk) fun k => z_ob (z_cI vs) fun sp => z_ob (z_cR vj) fun j =>
  z_arr F.2.2.2.1 j fun ty len u => z_arr F.2.2.2.1 k fun ty' len' _ => z_if (Nat.beq ty 0) (z_if (Nat.beq ty' 0) (z_if (Nat.beq len len') (z_if (Nat.beq n.toBitVec.toNat len) (z_if (Nat.blt len 1000) (z_if (Nat.beq sp.toBitVec.toNat 0) (z_if (Nat.beq dp.toBitVec.toNat 0) (z_if (Nat.ble (z_sum t) 8) (z_goH β F 3 t (z_hs F.2.2.2.1 k (some (.inl (0, len, u))))) none) none) none) none) none) none) none) none
noncomputable def z_aM2 (f : Int32 → Int32 → Int32) (mc ms : Nat) : zA := fun β F => z_lc F.2.2.1 fun b s => z_lc s fun a t => z_ob (z_op2 f a b) fun c => z_if (Nat.ble (z_sum t) 8) (z_if (Nat.ble F.2.2.2.2.1 mc) (z_if (Nat.ble F.2.2.2.2.2 ms) (z_go β F 3 (c :: t)) none) none) none
noncomputable def z_aM1 (f : Int32 → Int32) (mc ms : Nat) : zA := fun β F => z_lc F.2.2.1 fun a t => z_ob (z_op1 f a) fun c => z_if (Nat.ble (z_sum t) 8) (z_if (Nat.ble F.2.2.2.2.1 mc) (z_if (Nat.ble F.2.2.2.2.2 ms) (z_go β F 3 (c :: t)) none) none) none
/-- np values off the stack, the last first, in front of as -/
noncomputable def z_pop (np : Nat) : List zV → List zV → Option (List zV × List zV) := Nat.rec (motive := fun _ => List zV → List zV → Option (List zV × List zV)) (fun as st => some (as, st)) (fun _ ih as st => z_lc st fun v t => ih (v :: as) t) np
/-- kind: 0 virtual, 1 special, 2 static -/
noncomputable def z_aInv (kind mi np nmc nms ci mc ms : Nat) : zA := fun β F => z_ob (z_pop np [] F.2.2.1) fun q => z_if (Nat.ble (z_sum q.2) 8) (z_if (Nat.ble (Nat.add F.2.2.2.2.1 nmc) mc) (z_if (Nat.ble (Nat.add F.2.2.2.2.2 nms) ms)
  (z_if (Nat.beq kind 2) (some (.inr (.inr (.inr (mi, q)))))
    (z_lc q.1 fun o _ => z_ob (z_cR o) fun a => z_if (Nat.beq kind 1) (some (.inr (.inr (.inr (mi, q)))))
      (z_if (Nat.beq ci 100) (z_if (z_if (Nat.beq a z_STR) true (Nat.beq a z_STR2)) (some (.inr (.inr (.inr (mi, q))))) none) (z_obj F.2.2.2.1 a fun c _ => z_if (Nat.beq c ci) (some (.inr (.inr (.inr (mi, q))))) none)))) none) none) none
def z_at (t : ArrayType) : Nat := match t with
  | .int => 0 | .byte => 1 | .boolean => 2 | .long => 3 | _ => 9
noncomputable def z_inv (Ms : List zM) (M : zM) (kind a1 a2 : Nat) : zA := match a2 with
  | 2 => z_aObj
  | 3 => z_aCpy
  | 4 => z_aM2 (fun x y => if y < x then y else x) (zm_mc M) (zm_ms M)
  | 5 => z_aM2 (fun x y => if x < y then y else x) (zm_mc M) (zm_ms M)
  | 6 => z_aM1 (fun x => if 0 ≤ x then x else 0 - x) (zm_mc M) (zm_ms M)
  | _ => match Ms[a1]? with
    | some N => z_aInv kind a1 (zm_np N) (zm_mc N) (zm_ms N) (zm_ci N) (zm_mc M) (zm_ms M)
    | none => fun _ _ => none
noncomputable def z_aRetA (r : Option FieldType) (mc ms : Nat) : zA := match r with
  | some (.object _) => z_aRet z_isR mc ms
  | _ => fun _ _ => none
noncomputable def z_act (S : Nat → Int32) (Ms : List zM) (M : zM) (e : zE) : zA := match e.2.1 with
  | .iconst k => z_aK 1 (.inl (.int (Int32.ofInt k)))
  | .bipush k => z_aK 2 (.inl (.int (Int8.ofInt k).toInt32))
  | .sipush k => z_aK 3 (.inl (.int (Int16.ofInt k).toInt32))
  | .lconst k => z_aK 1 (.inl (.long (Int64.ofNat k.val)))
  | .ldc _ => match e.2.2.2.2 with
    | 1 => z_aK 2 (.inl (.ref z_STR))
    | 2 => z_aK 2 (.inl (.ref z_STR2))
    | _ => z_aK 2 (.inl (.int (Int32.ofNat e.2.2.2.1)))
  | .ldc_w _ => z_aK 3 (.inl (.int (Int32.ofNat e.2.2.2.1)))
  | .ldc2_w _ => z_aK 3 (.inl (.long (Int64.ofNat e.2.2.2.1)))
  | .getstatic _ => match e.2.2.2.1 with
    | 0 => z_aK 3 (.inl (.int 1))
    | _ => z_aK 3 (.inl (.retAddr 0))
  | .iload k => z_aLd 2 k z_isI
  | .iload_n k => z_aLd 1 k.val z_isI
  | .aload k => z_aLd 2 k z_isR
  | .aload_n k => z_aLd 1 k.val z_isR
  | .lload k => z_aLd 2 k z_isL
  | .lload_n k => z_aLd 1 k.val z_isL
  | .istore k => z_aSt 2 k (zm_L M) z_isI
  | .istore_n k => z_aSt 1 k.val (zm_L M) z_isI
  | .astore k => z_aSt 2 k (zm_L M) z_isR
  | .astore_n k => z_aSt 1 k.val (zm_L M) z_isR
  | .lstore k => z_aSt2 2 k (zm_L M)
  | .lstore_n k => z_aSt2 1 k.val (zm_L M)
  | .iinc k c => z_aInc k (zm_L M) (Int32.ofInt c)
  | .iadd => z_aBin z_add
  | .isub => z_aBin (z_op2 (· - ·))
  | .imul => z_aBin (z_op2 (· * ·))
  | .iand => z_aBin (z_op2 (· &&& ·))
  | .ixor => z_aBin (z_op2 (· ^^^ ·))
  | .lcmp => z_aBin z_lcm
  | .lshl => z_aBin z_lsh
  | .lor => z_aBin (z_lop (· ||| ·))
  | .ior => z_aBin (z_op2 (· ||| ·))
  | .ishl => z_aBin (z_op2 (fun x y => x <<< (y &&& 31)))
  | .ishr => z_aBin (z_op2 (fun x y => x >>> (y &&& 31)))
  | .iushr => z_aBin (z_op2 (fun x y => (x.toUInt32 >>> (y.toUInt32 &&& Int32.toUInt32 31)).toInt32))
  | .idiv => z_aBin (z_nz (· / ·))
  | .irem => z_aBin (z_nz (fun x y => x - x / y * y))
  | .ineg => z_aUn (z_op1 (fun x => -x))
  | .i2b => z_aUn (z_op1 (fun x => x.toInt8.toInt32))
  | .i2c => z_aUn (z_op1 (fun x => (x.toUInt32 % 65536).toInt32))
  | .i2l => z_aUn z_i2l
  | .ladd => z_aBin (z_lop (· + ·))
  | .lmul => z_aBin (z_lop (· * ·))
  | .dup => z_aDup
  | .dup2 => z_aDup2
  | .pop => z_aPop
  | .getfield _ => z_if (Nat.beq e.2.2.2.1 100) (z_aGetS e.2.2.2.2) (z_aGet e.2.2.2.1 e.2.2.2.2)
  | .arraylength => z_aLen S
  | .iaload => z_aIld S
  | .laload => z_aXld 3 z_isL
  | .baload => z_aBld
  | .aaload => z_aXld 4 z_isA
  | .putfield _ => z_aPut e.2.2.2.1 e.2.2.2.2 (z_fit (z_ty e.2.2.2.1 e.2.2.2.2))
  | .iastore => z_aSto z_si
  | .bastore => z_aSto z_sb
  | .lastore => z_aSto z_sl
  | .aastore => z_aSto z_sa
  | .newarray t => z_aMka 2 (z_at t) (zm_mc M) (zm_ms M)
  | .anewarray _ => z_aMka 3 4 (zm_mc M) (zm_ms M)
  | .new _ => z_aNew e.2.2.2.1 (zm_mc M) (zm_ms M)
  | .goto off => z_aGoto (z_tgt e.1 off)
  | .ifCond r off => z_aIf r (z_tgt e.1 off)
  | .if_icmp r off => z_aCmp r (z_tgt e.1 off)
  | .ifnull off => z_aNul false (z_tgt e.1 off)
  | .ifnonnull off => z_aNul true (z_tgt e.1 off)
  | .tableswitch dflt lo _ offs => z_aTab (z_tgt e.1 dflt) (z_n (Int32.ofInt lo)) (offs.toList.map (z_tgt e.1))
  | .ireturn => match zm_r M with
    | some ty => z_aRet (fun v => z_if (z_isI v) (z_fit ty v) false) (zm_mc M) (zm_ms M)
    | none => fun _ _ => none
  | .lookupswitch d ps => z_aLku e.1 d ps.toList
  | .lreturn => match zm_r M with
    | some .long => z_aRet z_isL (zm_mc M) (zm_ms M)
    | _ => fun _ _ => none
  | .areturn => z_aRetA (zm_r M) (zm_mc M) (zm_ms M)
  | .return_ => match zm_r M with
    | none => z_aRetV (zm_mc M) (zm_ms M)
    | _ => fun _ _ => none
  | .invokevirtual _ => z_inv Ms M 0 e.2.2.2.1 e.2.2.2.2
  | .invokespecial _ => z_inv Ms M 1 e.2.2.2.1 e.2.2.2.2
  | .invokestatic _ => z_inv Ms M 2 e.2.2.2.1 e.2.2.2.2
  | _ => fun _ _ => none
/-! the run -/
abbrev zX : Type := Nat × (Unit × zA)
noncomputable def z_code (S : Nat → Int32) (Ms : List zM) (M : zM) : List zX := (zm_c M).map fun e => (e.1, ((), z_act S Ms M e))
noncomputable def z_find (pc : Nat) (cs : List zX) : Option (zX × List zX) := List.rec (motive := fun _ => Option (zX × List zX)) none (fun e t ih => z_if (Nat.beq (Prod.fst e) pc) (some (e, t)) ih) cs
noncomputable def z_fetch (pc : Nat) (cs full : List zX) : Option (zX × List zX) := List.rec (motive := fun _ => Option (zX × List zX)) (z_find pc full) (fun e t _ => z_if (Nat.beq (Prod.fst e) pc) (some (e, t)) (z_find pc full)) cs
abbrev zCall : Type := Nat → List zV → zH → zB → Option (List zR)
abbrev zJ : Type := zB × zF × List zX
noncomputable def z_cat2 {α : Type} (a b : List α) : List α := List.rec (motive := fun _ => List α) b (fun x _ ih => x :: ih) a
noncomputable def z_run (Ms : List zM) (call : zCall) (full : List zX) (f : Nat) : List zJ → List zR → Option (List zR) :=
  Nat.rec (motive := fun _ => List zJ → List zR → Option (List zR)) (fun _ _ => none)
    (fun _ ih w acc => List.rec (motive := fun _ => Option (List zR)) (some acc)
      (fun j w' _ => z_ob (z_fetch j.2.1.1 j.2.2 full) fun q => z_ob (q.1.2.2 j.1 j.2.1) fun o =>
        Sum.rec (motive := fun _ => Option (List zR)) (fun s => ih ((s.1, s.2, q.2) :: w') acc)
          (fun o => Sum.rec (motive := fun _ => Option (List zR)) (fun ss => ih (z_cat2 (ss.map fun s => (s.1, s.2, q.2)) w') acc)
            (fun o => Sum.rec (motive := fun _ => Option (List zR)) (fun r => ih w' (r :: acc))
              (fun c => z_ob (Ms[c.1]?) fun N => z_ob (call c.1 c.2.1 j.2.1.2.2.2.1 j.1) fun lv =>
                ih (z_cat2 (lv.map fun r => (r.1, (Nat.add j.2.1.1 3, j.2.1.2.1, Option.rec (motive := fun _ => List zV) c.2.2 (fun v => v :: c.2.2) r.2.1, r.2.2, Nat.add j.2.1.2.2.2.2.1 (zm_mc N), Nat.add j.2.1.2.2.2.2.2 (zm_ms N)), q.2)) w') acc) o) o) o) w) f
noncomputable def z_ent (as : List zV) : Nat → zL := List.rec (motive := fun _ => Nat → zL) (fun _ => []) (fun v _ ih k => (k, v) :: ih (Nat.add k (z_cat v))) as
noncomputable def z_call (S : Nat → Int32) (Ms : List zM) (d : Nat) : zCall := Nat.rec (motive := fun _ => zCall) (fun _ _ _ _ => none)
  (fun _ ih mi as H β => z_ob (Ms[mi]?) fun M => z_if (Nat.ble (z_sum as) (zm_L M)) (z_run Ms ih (z_code S Ms M) 100000 [(β, (0, z_ent as 0, [], H, 0, 0), z_code S Ms M)] []) none) d
