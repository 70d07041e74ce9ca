/-! the executor: an abstract machine over script values that are not known, evaluated by the kernel -/
abbrev zV : Type := Value ⊕ (Nat ⊕ ((Nat → Int32) → Int32))
abbrev zK : Type := (Nat × Nat × List (Nat × zV)) ⊕ (Nat × List zV)
abbrev zC : Type := Option zK
abbrev zB : Type := List (Int × Int × List Int)
abbrev zL : Type := List (Nat × zV)
abbrev zE : Type := Nat × Instr × Nat × Nat × Nat
abbrev zF : Type := Nat × zL × List zV × List zC × Nat × Nat
abbrev zR : Type := zB × Option zV × List zC
abbrev zM : Type := MethodName × ByteArray × Nat × Option FieldType × Nat × Nat × Nat × Nat × List zE
def zm_y (M : zM) : MethodName := M.1
def zm_b (M : zM) : ByteArray := M.2.1
def zm_L (M : zM) : Nat := M.2.2.1
def zm_r (M : zM) : Option FieldType := M.2.2.2.1
def zm_mc (M : zM) : Nat := M.2.2.2.2.1
def zm_ms (M : zM) : Nat := M.2.2.2.2.2.1
def zm_np (M : zM) : Nat := M.2.2.2.2.2.2.1
def zm_ci (M : zM) : Nat := M.2.2.2.2.2.2.2.1
def zm_c (M : zM) : List zE := M.2.2.2.2.2.2.2.2
/-- the script, the text, the text's bytes: addresses that are no cells of ours -/
abbrev z_SCR : Nat := 1000000
abbrev z_STR : Nat := 1000001
abbrev z_STV : Nat := 1000002
def z_int (k : Int32) : zV := .inl (.int k)
def z_ref (k : Nat) : zV := .inl (.ref k)
def z_var (i : Nat) : zV := .inr (.inl i)
def z_isI (v : zV) : Bool := match v with
  | .inl (.int _) => true
  | .inr _ => true
  | _ => false
def z_I (ρ : Nat → Int32) (v : zV) : Int32 := match v with
  | .inl (.int k) => k
  | .inr (.inl i) => ρ i
  | .inr (.inr f) => f ρ
  | _ => 0
def z_cat (v : zV) : Nat := match v with
  | .inl v => v.category
  | .inr _ => 1
def z_is0 (v : zV) : Bool := match v with
  | .inl (.int x) => x == 0
  | _ => false
def z_op2 (f : Int32 → Int32 → Int32) (a b : zV) : Option zV :=
  match z_isI a && z_isI b with
  | true => some (match a, b with
    | .inl (.int x), .inl (.int y) => .inl (.int (f x y))
    | a, b => .inr (.inr fun ρ => f (z_I ρ a) (z_I ρ b)))
  | false => none
def z_op1 (f : Int32 → Int32) (a : zV) : Option zV :=
  match z_isI a with
  | true => some (match a with
    | .inl (.int x) => .inl (.int (f x))
    | a => .inr (.inr fun ρ => f (z_I ρ a)))
  | false => none
def z_add (a b : zV) : Option zV :=
  match z_is0 a && z_isI b with
  | true => some b
  | false => match z_is0 b && z_isI a with
    | true => some a
    | false => z_op2 (· + ·) a b
def z_get (ls : zL) (i : Nat) : Option zV := match ls with
  | [] => none
  | q :: t => match q.1 == i with
    | true => some q.2
    | false => z_get t i
def z_put1 (ls : zL) (i : Nat) (v : zV) : zL := (i, v) :: ls.filter (fun q => !(q.1 == i) && !(q.1 + 1 == i && z_cat q.2 == 2))
def z_put2 (ls : zL) (i : Nat) (v : zV) : zL := (i, v) :: ls.filter (fun q => !(q.1 == i) && (!(q.1 == i + 1) && !(q.1 + 1 == i && z_cat q.2 == 2)))
/-! boxes -/
def z_neg (r : ClassFile.Cond) : ClassFile.Cond := match r with
  | .eq => .ne | .ne => .eq | .lt => .ge | .ge => .lt | .gt => .le | .le => .gt
def z_flip (r : ClassFile.Cond) : ClassFile.Cond := match r with
  | .eq => .eq | .ne => .ne | .lt => .gt | .ge => .le | .gt => .lt | .le => .ge
def z_cmp (r : ClassFile.Cond) (x y : Int) : Bool := match r with
  | .eq => decide (x = y) | .ne => !decide (x = y) | .lt => decide (x < y) | .ge => !decide (x < y) | .gt => decide (y < x) | .le => !decide (y < x)
def z_lo (ex : List Int) (lo : Int) : Nat → Int
  | 0 => lo
  | n + 1 => match ex.contains lo with
    | true => z_lo ex (lo + 1) n
    | false => lo
def z_hi (ex : List Int) (hi : Int) : Nat → Int
  | 0 => hi
  | n + 1 => match ex.contains hi with
    | true => z_hi ex (hi - 1) n
    | false => hi
def z_rb (r : ClassFile.Cond) (c : Int) (b : Int × Int × List Int) : Int × Int × List Int := match r with
  | .eq => (max b.1 c, min b.2.1 c, b.2.2)
  | .ne => (b.1, b.2.1, c :: b.2.2)
  | .lt => (b.1, min b.2.1 (c - 1), b.2.2)
  | .ge => (max b.1 c, b.2.1, b.2.2)
  | .gt => (max b.1 (c + 1), b.2.1, b.2.2)
  | .le => (b.1, min b.2.1 c, b.2.2)
def z_nb (b : Int × Int × List Int) : Option (Int × Int × List Int) :=
  match decide (z_hi b.2.2 b.2.1 (b.2.2.length + 1) < z_lo b.2.2 b.1 (b.2.2.length + 1)) with
  | true => none
  | false => some (z_lo b.2.2 b.1 (b.2.2.length + 1), z_hi b.2.2 b.2.1 (b.2.2.length + 1), b.2.2)
/-- the box where var i stands so to c; none: there is nothing -/
def z_rf (r : ClassFile.Cond) (i : Nat) (c : Int) (β : zB) : Option zB := match β[i]? with
  | none => some β
  | some b => match z_nb (z_rb r c b) with
    | none => none
    | some b' => some (β.set i b')
def z_two (x y : Option zB) : List (Bool × zB) := match x, y with
  | some a, some b => [(true, a), (false, b)]
  | some a, none => [(true, a)]
  | none, some b => [(false, b)]
  | none, none => []
def z_split (r : ClassFile.Cond) (a b : zV) (β : zB) : List (Bool × zB) := match a, b with
  | .inl (.int x), .inl (.int y) => [(z_cmp r x.toInt y.toInt, β)]
  | .inr (.inl i), .inl (.int y) => z_two (z_rf r i y.toInt β) (z_rf (z_neg r) i y.toInt β)
  | .inl (.int x), .inr (.inl i) => z_two (z_rf (z_flip r) i x.toInt β) (z_rf (z_neg (z_flip r)) i x.toInt β)
  | .inr (.inl i), .inr (.inl j) => match i == j with
    | true => [(z_cmp r 0 0, β)]
    | false => [(true, β), (false, β)]
  | _, _ => [(true, β), (false, β)]
/-- a var with a small box, wanted as a number: where to cut -/
def z_cut (v : zV) (β : zB) : Option (Nat × Int) := match v with
  | .inr (.inl i) => match β[i]? with
    | none => none
    | some b => match decide (b.1 < b.2.1) && decide (b.2.1 ≤ b.1 + 64) with
      | true => some (i, b.1)
      | false => none
  | _ => none
def z_cuts (vs : List zV) (β : zB) : Option (Nat × Int) := match vs with
  | [] => none
  | v :: t => match z_cut v β with
    | some q => some q
    | none => z_cuts t β
/-- a var whose box is one number -/
def z_rs (β : zB) (v : zV) : zV := match v with
  | .inr (.inl i) => match β[i]? with
    | none => v
    | some b => match decide (b.1 = b.2.1) with
      | true => .inl (.int (Int32.ofInt b.1))
      | false => v
  | _ => v
/-- which places of the stack an instruction wants as numbers: how many, behind how many -/
def z_dem (i : Instr) : Nat := match i with
  | .iadd | .isub | .imul | .iand | .ior | .ishl | .ishr | .iushr | .idiv | .irem => 2
  | .iaload | .baload | .laload | .aaload | .newarray _ | .anewarray _ | .ineg | .i2l => 1
  | .iastore | .bastore | .lastore | .aastore => 3
  | _ => 0
def z_wants (i : Instr) (st : List zV) : List zV := match z_dem i, st with
  | 1, a :: _ => [a]
  | 2, a :: b :: _ => [a, b]
  | 3, _ :: b :: _ => [b]
  | _, _ => []
def z_fix (i : Instr) (β : zB) (st : List zV) : List zV := match z_dem i, st with
  | 1, a :: t => z_rs β a :: t
  | 2, a :: b :: t => z_rs β a :: z_rs β b :: t
  | 3, a :: b :: t => a :: z_rs β b :: t
  | _, _ => st
/-! one instruction -/
def z_loadI (v : Option zV) (ls : zL) (st : List zV) : Option (zL × List zV) := match v with
  | some v => match z_isI v with
    | true => some (ls, v :: st)
    | false => none
  | none => none
def z_loadA (v : Option zV) (ls : zL) (st : List zV) : Option (zL × List zV) := match v with
  | some (.inl (.ref k)) => some (ls, .inl (.ref k) :: st)
  | _ => none
def z_loadL (v : Option zV) (ls : zL) (st : List zV) : Option (zL × List zV) := match v with
  | some (.inl (.long k)) => some (ls, .inl (.long k) :: st)
  | _ => none
def z_stI (n : Nat) (i : Nat) (ls : zL) (st : List zV) : Option (zL × List zV) := match st with
  | v :: t => match z_isI v && decide (i < n) with
    | true => some (z_put1 ls i v, t)
    | false => none
  | [] => none
def z_stA (n : Nat) (i : Nat) (ls : zL) (st : List zV) : Option (zL × List zV) := match st with
  | .inl (.ref k) :: t => match decide (i < n) with
    | true => some (z_put1 ls i (.inl (.ref k)), t)
    | false => none
  | _ => none
def z_stL (n : Nat) (i : Nat) (ls : zL) (st : List zV) : Option (zL × List zV) := match st with
  | .inl (.long k) :: t => match decide (i + 1 < n) with
    | true => some (z_put2 ls i (.inl (.long k)), t)
    | false => none
  | _ => none
def z_bin (f : zV → zV → Option zV) (ls : zL) (st : List zV) : Option (zL × List zV) := match st with
  | b :: a :: t => match f a b with
    | some c => some (ls, c :: t)
    | none => none
  | _ => none
def z_un (f : zV → Option zV) (ls : zL) (st : List zV) : Option (zL × List zV) := match st with
  | a :: t => match f a with
    | some c => some (ls, c :: t)
    | none => none
  | _ => none
def z_nz (f : Int32 → Int32 → Int32) (a b : zV) : Option zV := match b with
  | .inl (.int y) => match y == 0 with
    | true => none
    | false => z_op2 f a (.inl (.int y))
  | _ => none
def z_lop (f : Int64 → Int64 → Int64) (a b : zV) : Option zV := match a, b with
  | .inl (.long x), .inl (.long y) => some (.inl (.long (f x y)))
  | _, _ => none
def z_i2l (a : zV) : Option zV := match a with
  | .inl (.int x) => some (.inl (.long x.toInt64))
  | _ => none
def z_inc (n : Nat) (i : Nat) (k : Int) (ls : zL) (st : List zV) : Option (zL × List zV) := match z_get ls i with
  | some v => match z_op2 (· + ·) v (.inl (.int (Int32.ofInt k))), decide (i < n) with
    | some w, true => some (z_put1 ls i w, st)
    | _, _ => none
  | none => none
def z_pure (n : Nat) (i : Instr) (a1 a2 : Nat) (ls : zL) (st : List zV) : Option (zL × List zV) := match i with
  | .iconst k => some (ls, .inl (.int (Int32.ofInt k)) :: st)
  | .bipush k => some (ls, .inl (.int (Int8.ofInt k).toInt32) :: st)
  | .sipush k => some (ls, .inl (.int (Int16.ofInt k).toInt32) :: st)
  | .lconst k => some (ls, .inl (.long (Int64.ofNat k.val)) :: st)
  | .iload k => z_loadI (z_get ls k) ls st
  | .iload_n k => z_loadI (z_get ls k.val) ls st
  | .aload k => z_loadA (z_get ls k) ls st
  | .aload_n k => z_loadA (z_get ls k.val) ls st
  | .lload k => z_loadL (z_get ls k) ls st
  | .lload_n k => z_loadL (z_get ls k.val) ls st
  | .istore k => z_stI n k ls st
  | .istore_n k => z_stI n k.val ls st
  | .astore k => z_stA n k ls st
  | .astore_n k => z_stA n k.val ls st
  | .lstore k => z_stL n k ls st
  | .lstore_n k => z_stL n k.val ls st
  | .iinc k c => z_inc n k c ls st
  | .iadd => z_bin z_add ls st
  | .isub => z_bin (z_op2 (· - ·)) ls st
  | .imul => z_bin (z_op2 (· * ·)) ls st
  | .iand => z_bin (z_op2 (· &&& ·)) ls st
  | .ior => z_bin (z_op2 (· ||| ·)) ls st
  | .ishl => z_bin (z_op2 (fun x y => x <<< (y &&& 31))) ls st
  | .ishr => z_bin (z_op2 (fun x y => x >>> (y &&& 31))) ls st
  | .iushr => z_bin (z_op2 (fun x y => (x.toUInt32 >>> (y.toUInt32 &&& Int32.toUInt32 31)).toInt32)) ls st
  | .idiv => z_bin (z_nz (· / ·)) ls st
  | .irem => z_bin (z_nz (fun x y => x - x / y * y)) ls st
  | .ineg => z_un (z_op1 (fun x => -x)) ls st
  | .i2b => z_un (z_op1 (fun x => x.toInt8.toInt32)) ls st
  | .i2c => z_un (z_op1 (fun x => (x.toUInt32 % 65536).toInt32)) ls st
  | .i2l => z_un z_i2l ls st
  | .ladd => z_bin (z_lop (· + ·)) ls st
  | .lmul => z_bin (z_lop (· * ·)) ls st
  | .dup => match st with
    | a :: t => match z_cat a == 1 with
      | true => some (ls, a :: a :: t)
      | false => none
    | [] => none
  | .dup2 => match st with
    | a :: b :: t => match z_cat a == 1 && z_cat b == 1 with
      | true => some (ls, a :: b :: a :: b :: t)
      | false => none
    | _ => none
  | .pop => match st with
    | a :: t => match z_cat a == 1 with
      | true => some (ls, t)
      | false => none
    | [] => none
  | .ldc _ => match a2 == 1 with
    | true => some (ls, .inl (.ref z_STR) :: st)
    | false => some (ls, .inl (.int (Int32.ofNat a1)) :: st)
  | .ldc_w _ => some (ls, .inl (.int (Int32.ofNat a1)) :: st)
  | .ldc2_w _ => some (ls, .inl (.long (Int64.ofNat a1)) :: st)
  | .getstatic _ => match a1 == 0 with
    | true => some (ls, .inl (.int 1) :: st)
    | false => some (ls, .inl (.retAddr 0) :: st)
  | _ => none
def z_in (i : Int32) (n : Nat) : Bool := !(decide (i < 0)) && decide (i.toNatClampNeg < n)
def z_el (ty : Nat) (u : List (Nat × zV)) (j : Nat) : zV := match z_get u j with
  | some v => v
  | none => match ty with
    | 3 => .inl (.long 0)
    | 4 => .inl .null
    | _ => .inl (.int 0)
def z_ins (u : List (Nat × zV)) (j : Nat) (v : zV) : List (Nat × zV) := match u with
  | [] => [(j, v)]
  | q :: t => match q.1 == j with
    | true => (j, v) :: t
    | false => q :: z_ins t j v
def z_txt : List Int32 := [100, 101, 101, 100, 32, 104, 101, 114, 101, 32, 103, 111, 111, 100, 32, 98, 97, 100, 32, 116, 104, 101, 114, 101, 32, 112, 101, 114, 115, 111, 110, 32, 111, 102, 32, 102, 105, 114, 115, 116, 32, 111, 110, 32, 100, 111, 101, 115, 32, 103, 114, 111, 117, 112, 32, 109, 97, 110, 121, 32, 112, 105, 116, 121, 32, 118, 111, 116, 101, 32, 119, 105, 110, 116, 101, 114, 32, 100, 114, 97, 119, 32, 111, 114, 32, 97, 110, 100, 32, 110, 111, 116, 32, 116, 101, 114, 109, 115, 32, 115, 101, 97, 115, 111, 110, 32]
def z_ld (tys : List Nat) (ok : zV → Bool) (H : List zC) (i : Int32) (k : Nat) (t : List zV) : Option (List zV) := match H[k]? with
  | some (some (.inl (ty, len, u))) => match tys.contains ty && z_in i len && ok (z_el ty u i.toNatClampNeg) with
    | true => some (z_el ty u i.toNatClampNeg :: t)
    | false => none
  | _ => none
def z_isL (v : zV) : Bool := match v with
  | .inl (.long _) => true
  | _ => false
def z_isA (v : zV) : Bool := match v with
  | .inl (.ref _) => true
  | .inl .null => true
  | _ => false
def z_ge (β : zB) (i : Nat) : Bool := match β[6]? with
  | some b => decide ((i : Int) < b.1)
  | none => false
def z_read (i : Instr) (a1 a2 : Nat) (H : List zC) (β : zB) (st : List zV) : Option (List zV) := match i with
  | .getfield _ => match st with
    | .inl (.ref k) :: t => match a1 == 100 with
      | true => match k == z_STR with
        | true => match a2 == 0 with
          | true => some (.inl (.ref z_STV) :: t)
          | false => some (.inl (.int 0) :: t)
        | false => none
      | false => match H[k]? with
        | some (some (.inr (ci, fs))) => match ci == a1 with
          | true => match fs[a2]? with
            | some v => some (v :: t)
            | none => none
          | false => none
        | _ => none
    | _ => none
  | .arraylength => match st with
    | .inl (.ref k) :: t => match k == z_SCR with
      | true => some (.inr (.inl 6) :: t)
      | false => match k == z_STV with
        | true => some (.inl (.int (Int32.ofNat z_txt.length)) :: t)
        | false => match H[k]? with
          | some (some (.inl (_, len, _))) => some (.inl (.int (Int32.ofNat len)) :: t)
          | _ => none
    | _ => none
  | .iaload => match st with
    | .inl (.int i) :: .inl (.ref k) :: t => match k == z_SCR with
      | true => match z_in i 6 && z_ge β i.toNatClampNeg with
        | true => some (.inr (.inl i.toNatClampNeg) :: t)
        | false => none
      | false => z_ld [0] z_isI H i k t
    | _ => none
  | .baload => match st with
    | .inl (.int i) :: .inl (.ref k) :: t => match k == z_STV with
      | true => match z_in i z_txt.length with
        | true => some (.inl (.int (z_txt.getD i.toNatClampNeg 0)) :: t)
        | false => none
      | false => z_ld [1, 2] z_isI H i k t
    | _ => none
  | .laload => match st with
    | .inl (.int i) :: .inl (.ref k) :: t => z_ld [3] z_isL H i k t
    | _ => none
  | .aaload => match st with
    | .inl (.int i) :: .inl (.ref k) :: t => z_ld [4] z_isA H i k t
    | _ => none
  | _ => none
def z_fit (ty : FieldType) (v : zV) : Bool := match ty with
  | .int => z_isI v
  | .long => z_isL v
  | .object _ => z_isA v
  | .array _ => z_isA v
  | .boolean => match v with
    | .inl (.int k) => k == 0 || k == 1
    | _ => false
  | .char => match v with
    | .inl (.int k) => decide (narrow .char (.int k) = .int k) && fits .char (.int k)
    | _ => false
  | .byte => match v with
    | .inl (.int k) => decide (narrow .byte (.int k) = .int k) && fits .byte (.int k)
    | _ => false
  | _ => false
def z_ty (c : Nat) : Nat → FieldType := match c with
  | 0 => tyX0 | 1 => tyX1 | 2 => tyX2 | 3 => tyX3 | 4 => tyX4 | 5 => tyX5 | 6 => tyX6 | 7 => tyX7 | 8 => tyX8 | 9 => tyX9 | 10 => tyX10 | _ => tyX11
def z_N (c : Nat) : Nat := match c with
  | 0 => 2 | 1 => 3 | 2 => 6 | 3 => 7 | 4 => 3 | 5 => 11 | 6 => 16 | 7 => 8 | 8 => 8 | 9 => 1 | 10 => 14 | _ => 70
def z_new (c : Nat) : List zV := (List.range (z_N c)).map (fun j => .inl (defaultValue (z_ty c j)))
def z_at (t : ArrayType) : Nat := match t with
  | .int => 0 | .byte => 1 | .boolean => 2 | .long => 3 | _ => 9
def z_sto (f : Nat → zV → Option zV) (H : List zC) (v : zV) (i : Int32) (k : Nat) : Option (List zC) := match H[k]? with
  | some (some (.inl (ty, len, u))) => match z_in i len, f ty v with
    | true, some w => some (H.set k (some (.inl (ty, len, z_ins u i.toNatClampNeg w))))
    | _, _ => none
  | _ => none
def z_si (ty : Nat) (v : zV) : Option zV := match ty == 0 && z_isI v with
  | true => some v
  | false => none
def z_sb (ty : Nat) (v : zV) : Option zV := match ty with
  | 1 => z_op1 (vp_nar .byte) v
  | 2 => z_op1 (vp_nar .boolean) v
  | _ => none
def z_sl (ty : Nat) (v : zV) : Option zV := match ty == 3 && z_isL v with
  | true => some v
  | false => none
def z_sa (H : List zC) (ty : Nat) (v : zV) : Option zV := match v with
  | .inl (.ref q) => match H[q]? with
    | some (some (.inr (ci, _))) => match ty == 4 && ci == 9 with
      | true => some v
      | false => none
    | _ => none
  | _ => none
def z_mka (ty : Nat) (mc ms : Nat) (H : List zC) (st : List zV) (cells slots : Nat) : Option (List zV × List zC × Nat × Nat) := match st with
  | .inl (.int n) :: t => match !(decide (n < 0)) && decide (n.toNatClampNeg ≤ 60000000) && decide (cells + 1 ≤ mc) && decide (slots + n.toNatClampNeg ≤ ms) && decide (ty < 5) with
    | true => some (.inl (.ref H.length) :: t, H ++ [some (.inl (ty, n.toNatClampNeg, []))], cells + 1, slots + n.toNatClampNeg)
    | false => none
  | _ => none
def z_write (i : Instr) (a1 a2 : Nat) (mc ms : Nat) (H : List zC) (st : List zV) (cells slots : Nat) : Option (List zV × List zC × Nat × Nat) := match i with
  | .putfield _ => match st with
    | v :: .inl (.ref k) :: t => match H[k]? with
      | some (some (.inr (ci, fs))) => match ci == a1 && decide (a2 < fs.length) && z_fit (z_ty a1 a2) v with
        | true => some (t, H.set k (some (.inr (ci, fs.set a2 v))), cells, slots)
        | false => none
      | _ => none
    | _ => none
  | .iastore => match st with
    | v :: .inl (.int i) :: .inl (.ref k) :: t => match z_sto z_si H v i k with
      | some H' => some (t, H', cells, slots)
      | none => none
    | _ => none
  | .bastore => match st with
    | v :: .inl (.int i) :: .inl (.ref k) :: t => match z_sto z_sb H v i k with
      | some H' => some (t, H', cells, slots)
      | none => none
    | _ => none
  | .lastore => match st with
    | v :: .inl (.int i) :: .inl (.ref k) :: t => match z_sto z_sl H v i k with
      | some H' => some (t, H', cells, slots)
      | none => none
    | _ => none
  | .aastore => match st with
    | v :: .inl (.int i) :: .inl (.ref k) :: t => match z_sto (z_sa H) H v i k with
      | some H' => some (t, H', cells, slots)
      | none => none
    | _ => none
  | .newarray t => z_mka (z_at t) mc ms H st cells slots
  | .anewarray _ => z_mka 4 mc ms H st cells slots
  | .new _ => match decide (a1 < 12) && decide (cells + 1 ≤ mc) && decide (slots + z_N a1 ≤ ms) with
    | true => some (.inl (.ref H.length) :: st, H ++ [some (.inr (a1, z_new a1))], cells + 1, slots + z_N a1)
    | false => none
  | _ => none
def z_tgt (pc : Nat) (off : Int) : Option Nat := match decide ((pc : Int) + off = (((pc : Int) + off).toNat : Int)) with
  | true => some ((pc : Int) + off).toNat
  | false => none
def z_br (pc : Nat) (off : Int) (t : List zV) (ss : List (Bool × zB)) : Option (List (zB × Nat × List zV)) := match z_tgt pc off with
  | some g => some (ss.map fun q => (q.2, (match q.1 with | true => g | false => pc + 3), t))
  | none => none
/-- the places of a table, one by one -/
def z_tab (pc : Nat) (a : zV) (β : zB) (t : List zV) (lo : Int) : List Int → Option (List (zB × Nat × List zV))
  | [] => some []
  | off :: r => match z_tgt pc off, z_tab pc a β t (lo + 1) r with
    | some g, some l => match a with
      | .inr (.inl i) => match z_rf .eq i lo β with
        | some β' => some ((β', g, t) :: l)
        | none => some l
      | _ => some ((β, g, t) :: l)
    | _, _ => none
def z_dfl (a : zV) (β : zB) (lo : Int) : Nat → Option zB
  | 0 => some β
  | n + 1 => match a with
    | .inr (.inl i) => match z_rf .ne i lo β with
      | some β' => z_dfl a β' (lo + 1) n
      | none => none
    | _ => some β
def z_jump (i : Instr) (pc : Nat) (β : zB) (st : List zV) : Option (List (zB × Nat × List zV)) := match i with
  | .goto off => z_br pc off st [(true, β)]
  | .ifCond r off => match st with
    | a :: t => match z_isI a with
      | true => z_br pc off t (z_split r a (.inl (.int 0)) β)
      | false => none
    | _ => none
  | .if_icmp r off => match st with
    | b :: a :: t => match z_isI a && z_isI b with
      | true => z_br pc off t (z_split r a b β)
      | false => none
    | _ => none
  | .ifnull off => match st with
    | .inl (.ref _) :: t => z_br pc off t [(false, β)]
    | _ => none
  | .ifnonnull off => match st with
    | .inl (.ref _) :: t => z_br pc off t [(true, β)]
    | _ => none
  | .tableswitch dflt lo hi offs => match st with
    | a :: t => match z_isI a && decide (((offs.toList.length : Nat) : Int) = hi - lo + 1), z_tgt pc dflt with
      | true, some g => match a with
        | .inl (.int x) => match decide (x.toInt < lo) || decide (hi < x.toInt) with
          | true => some [(β, g, t)]
          | false => match offs.toList[(x.toInt - lo).toNat]? with
            | some off => z_br pc off t [(true, β)]
            | none => none
        | a => match z_tab pc a β t lo offs.toList with
          | some l => match z_dfl a β lo offs.toList.length with
            | some β' => some ((β', g, t) :: l)
            | none => some l
          | none => none
      | _, _ => none
    | _ => none
  | _ => none
def z_retv (M : zM) (i : Instr) (β : zB) (H : List zC) (st : List zV) (cells slots : Nat) : Option zR :=
  match cells == zm_mc M && slots == zm_ms M with
  | true => match i with
    | .ireturn => match st, zm_r M with
      | [v], some ty => match z_isI v && z_fit ty v with
        | true => some (β, some v, H)
        | false => none
      | _, _ => none
    | .areturn => match st, zm_r M with
      | [.inl (.ref k)], some (.object _) => some (β, some (.inl (.ref k)), H)
      | _, _ => none
    | .return_ => match st, zm_r M with
      | [], none => some (β, none, H)
      | _, _ => none
    | _ => none
  | false => none
def z_sum (st : List zV) : Nat := match st with
  | [] => 0
  | v :: t => z_cat v + z_sum t
abbrev zO : Type := List (zB × zF) ⊕ (zR ⊕ (Nat × List zV × List zV))
def z_cpy (H : List zC) (st : List zV) : Option (List zV × List zC) := match st with
  | .inl (.int n) :: .inl (.int dp) :: .inl (.ref k) :: .inl (.int sp) :: .inl (.ref j) :: t => match H[j]?, H[k]? with
    | some (some (.inl (ty, len, u))), some (some (.inl (ty', len', _))) => match ty == 0 && ty' == 0 && len == len' && decide (n = Int32.ofNat len) && decide (len < 1000) && sp == 0 && dp == 0 && decide (z_sum t ≤ 8) with
      | true => some (t, H.set k (some (.inl (0, len, u))))
      | false => none
    | _, _ => none
  | _ => none
def z_inv (Ms : List zM) (own : String) (i : Instr) (a1 a2 : Nat) (H : List zC) (st : List zV) (mc ms cells slots : Nat) : Option ((List zV × List zC) ⊕ (Nat × List zV × List zV)) :=
  match a2 with
  | 2 => match i, st with
    | .invokespecial _, .inl (.ref _) :: t => match decide (z_sum t ≤ 8) with
      | true => some (.inl (t, H))
      | false => none
    | _, _ => none
  | 3 => match i with
    | .invokestatic _ => match z_cpy H st with
      | some q => some (.inl q)
      | none => none
    | _ => none
  | 4 => match i, st with
    | .invokestatic _, b :: a :: t => match z_op2 (fun x y => if y < x then y else x) a b, decide (z_sum t ≤ 8) && decide (cells ≤ mc) && decide (slots ≤ ms) with
      | some c, true => some (.inl (c :: t, H))
      | _, _ => none
    | _, _ => none
  | 5 => match i, st with
    | .invokestatic _, b :: a :: t => match z_op2 (fun x y => if x < y then y else x) a b, decide (z_sum t ≤ 8) && decide (cells ≤ mc) && decide (slots ≤ ms) with
      | some c, true => some (.inl (c :: t, H))
      | _, _ => none
    | _, _ => none
  | 6 => match i, st with
    | .invokestatic _, a :: t => match z_op1 (fun x => if 0 ≤ x then x else 0 - x) a, decide (z_sum t ≤ 8) && decide (cells ≤ mc) && decide (slots ≤ ms) with
      | some c, true => some (.inl (c :: t, H))
      | _, _ => none
    | _, _ => none
  | _ => match Ms[a1]? with
    | none => none
    | some N => match decide (zm_np N ≤ st.length) && decide (z_sum (st.drop (zm_np N)) ≤ 8) && decide (cells + zm_mc N ≤ mc) && decide (slots + zm_ms N ≤ ms) with
      | true => match i with
        | .invokevirtual _ => match (st.take (zm_np N)).reverse with
          | .inl (.ref k) :: _ => match zm_ci N == 100 with
            | true => match k == z_STR with
              | true => some (.inr (a1, (st.take (zm_np N)).reverse, st.drop (zm_np N)))
              | false => none
            | false => match H[k]? with
              | some (some (.inr (ci, _))) => match ci == zm_ci N with
                | true => some (.inr (a1, (st.take (zm_np N)).reverse, st.drop (zm_np N)))
                | false => none
              | _ => none
          | _ => none
        | .invokespecial _ => match (st.take (zm_np N)).reverse with
          | .inl (.ref _) :: _ => some (.inr (a1, (st.take (zm_np N)).reverse, st.drop (zm_np N)))
          | _ => none
        | .invokestatic _ => some (.inr (a1, (st.take (zm_np N)).reverse, st.drop (zm_np N)))
        | _ => none
      | false => none
def z_cls (i : Instr) : Nat := match i with
  | .getfield _ | .arraylength | .iaload | .baload | .laload | .aaload => 1
  | .putfield _ | .iastore | .bastore | .lastore | .aastore | .newarray _ | .anewarray _ | .new _ => 2
  | .goto _ | .ifCond _ _ | .if_icmp _ _ | .ifnull _ | .ifnonnull _ | .tableswitch _ _ _ _ => 3
  | .ireturn | .areturn | .return_ => 4
  | .invokevirtual _ | .invokestatic _ | .invokespecial _ => 5
  | _ => 0
def z_step (Ms : List zM) (M : zM) (e : zE) (β : zB) (F : zF) : Option zO := match z_cuts (z_wants e.2.1 F.2.2.1) β with
  | some q => some (.inl ((z_two (z_rf .eq q.1 q.2 β) (z_rf .ne q.1 q.2 β)).map fun x => (x.2, F)))
  | none => match z_cls e.2.1 with
    | 0 => match z_pure (zm_L M) e.2.1 e.2.2.2.1 e.2.2.2.2 F.2.1 (z_fix e.2.1 β F.2.2.1) with
      | some q => some (.inl [(β, (F.1 + e.2.2.1, q.1, q.2, F.2.2.2))])
      | none => none
    | 1 => match z_read e.2.1 e.2.2.2.1 e.2.2.2.2 F.2.2.2.1 β (z_fix e.2.1 β F.2.2.1) with
      | some q => some (.inl [(β, (F.1 + e.2.2.1, F.2.1, q, F.2.2.2))])
      | none => none
    | 2 => match z_write e.2.1 e.2.2.2.1 e.2.2.2.2 (zm_mc M) (zm_ms M) F.2.2.2.1 (z_fix e.2.1 β F.2.2.1) F.2.2.2.2.1 F.2.2.2.2.2 with
      | some q => some (.inl [(β, (F.1 + e.2.2.1, F.2.1, q.1, q.2.1, q.2.2))])
      | none => none
    | 3 => match z_jump e.2.1 F.1 β F.2.2.1 with
      | some l => some (.inl (l.map fun x => (x.1, (x.2.1, F.2.1, x.2.2, F.2.2.2))))
      | none => none
    | 4 => match z_retv M e.2.1 β F.2.2.2.1 F.2.2.1 F.2.2.2.2.1 F.2.2.2.2.2 with
      | some r => some (.inr (.inl r))
      | none => none
    | _ => match z_inv Ms (zm_y M).cls e.2.1 e.2.2.2.1 e.2.2.2.2 F.2.2.2.1 F.2.2.1 (zm_mc M) (zm_ms M) F.2.2.2.2.1 F.2.2.2.2.2 with
      | some (.inl q) => some (.inl [(β, (F.1 + 3, F.2.1, q.1, q.2, F.2.2.2.2))])
      | some (.inr q) => some (.inr (.inr q))
      | none => none
def z_find (pc : Nat) (cs : List zE) : Option (zE × List zE) := match cs with
  | [] => none
  | e :: t => match e.1 == pc with
    | true => some (e, t)
    | false => z_find pc t
def z_fetch (pc : Nat) (cs full : List zE) : Option (zE × List zE) := match cs with
  | e :: t => match e.1 == pc with
    | true => some (e, t)
    | false => z_find pc full
  | [] => z_find pc full
abbrev zCall : Type := Nat → List zV → List zC → zB → Option (List zR)
abbrev zJ : Type := zB × zF × List zE
def z_run (Ms : List zM) (call : zCall) (M : zM) : Nat → List zJ → List zR → Option (List zR)
  | 0, _, _ => none
  | f + 1, w, acc => match w with
    | [] => some acc
    | j :: w' => match z_fetch j.2.1.1 j.2.2 (zm_c M) with
      | none => none
      | some q => match z_step Ms M q.1 j.1 j.2.1 with
        | none => none
        | some (.inl ss) => z_run Ms call M f ((ss.map fun s => (s.1, s.2, q.2)) ++ w') acc
        | some (.inr (.inl r)) => z_run Ms call M f w' (r :: acc)
        | some (.inr (.inr c)) => match Ms[c.1]? with
          | none => none
          | some N => match call c.1 c.2.1 j.2.1.2.2.2.1 j.1 with
            | none => none
            | some lv => z_run Ms call M f ((lv.map fun r => (r.1, (j.2.1.1 + 3, j.2.1.2.1, r.2.1.toList ++ c.2.2, r.2.2, j.2.1.2.2.2.2.1 + zm_mc N, j.2.1.2.2.2.2.2 + zm_ms N), q.2)) ++ w') acc
def z_ent (k : Nat) (as : List zV) : zL := match as with
  | [] => []
  | v :: t => (k, v) :: z_ent (k + z_cat v) t
def z_call (Ms : List zM) : Nat → zCall
  | 0 => fun _ _ _ _ => none
  | d + 1 => fun mi as H β => match Ms[mi]? with
    | none => none
    | some M => z_run Ms (z_call Ms d) M 100000 [(β, (0, z_ent 0 as, [], H, 0, 0), zm_c M)] []
