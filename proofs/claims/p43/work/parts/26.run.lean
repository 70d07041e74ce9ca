/-! an instruction, a run, a contract: what the kernel runs -/
noncomputable def q_idl (n : Nat) : List qL := (List.range n).map fun i => (Int.ofNat 0, [(i, Int.ofNat 1)])
noncomputable def q_ret1 (m0 : Nat) (r : Option qV) (w : qW) (lf : qLf) : Bool := q_fls (q_idl m0) fun σ => Option.rec (motive := fun _ => Bool)
    (Option.rec (motive := fun _ => Bool) (q_sg [] (fun w σ => q_pm σ lf.1 w) lf.1.1 w σ) (fun _ => false) r)
    (fun p => q_ob r fun a => q_sg [(0, a)] (fun w σ => q_and (q_mvs σ [(0, a)] [(0, p)] w) (q_pm σ lf.1 w)) lf.1.1 w σ) lf.2
noncomputable def q_ret (C : qCon) (r : Option qV) (w : qW) : Bool := q_any (q_ret1 C.2.1 r w) C.2.2.2.2.2.2.1
noncomputable def q_no : qAct := fun _ _ => false
noncomputable def q_kI (n : Nat) (lo hi k : Int) : qAct := fun K A => q_and (q_le lo k) (q_and (q_le k hi) (q_fi k fun k => q_aK n (q_vi (k, [])) K A))
noncomputable def q_s32 (a : Nat) : Int := z_if (Nat.blt a 2147483648) (Int.ofNat a) (Int.sub (Int.ofNat a) (Int.ofNat 4294967296))
noncomputable def q_s64 (a : Nat) : Int := z_if (Nat.blt a 9223372036854775808) (Int.ofNat a) (Int.sub (Int.ofNat a) (Int.ofNat 18446744073709551616))
noncomputable def q_kN (n a : Nat) : qAct := fun K A => q_and (Nat.blt a 4294967296) (q_fi (q_s32 a) fun k => q_aK n (q_vi (k, [])) K A)
noncomputable def q_kL (n a : Nat) : qAct := fun K A => q_and (Nat.blt a 18446744073709551616) (q_fi (q_s64 a) fun k => q_aK n (q_vl (k, [])) K A)
noncomputable def q_aRet (C : qCon) (ty : Nat) : qAct := fun _ A => q_ca A fun _ _ st w => q_lc st fun a t => q_and (z_nil t) (q_cw w fun _ b cs _ _ => q_and (q_fok1 ty b cs a) (q_ret C (some a) w))
noncomputable def q_aRetV (C : qCon) : qAct := fun _ A => q_ca A fun _ _ st w => q_and (z_nil st) (q_ret C none w)
noncomputable def q_mod (C : qCon) : Nat := C.2.2.2.2.1
noncomputable def q_dl (C : qCon) : qL := C.2.2.2.2.2.1
noncomputable def q_inv' (Ms : List zM) (Cd : List (List qCon)) (C : qCon) (kind a1 a2 : Nat) : qAct := match a2 with
  | 2 => q_no
  | 3 => q_aCpy (q_mod C)
  | 4 => q_aMin
  | 5 => q_aMax
  | 6 => q_aAbs
  | _ => match Ms[a1]? with
    | some N => z_if (q_and (Nat.beq (zm_mc N) 0) (Nat.beq (zm_ms N) 0)) (q_aCall kind (zm_ci N) (zm_np N) (q_mod C) (q_dl C) ((Cd[a1]?).getD [])) q_no
    | none => q_no
noncomputable def q_act (Ms : List zM) (Cd : List (List qCon)) (C : qCon) (M : zM) (e : zE) : qAct := match e.2.1 with
  | .iconst k => q_kI 1 (Int.negSucc 127) (Int.ofNat 127) k
  | .bipush k => q_kI 2 (Int.negSucc 127) (Int.ofNat 127) k
  | .sipush k => q_kI 3 (Int.negSucc 32767) (Int.ofNat 32767) k
  | .lconst k => q_aK 1 (q_vl (Int.ofNat k.val, []))
  | .ldc _ => match e.2.2.2.2 with
    | 1 => q_no
    | 2 => q_aK 2 (6, 0, q_0, q_0)
    | _ => q_kN 2 e.2.2.2.1
  | .ldc_w _ => q_kN 3 e.2.2.2.1
  | .ldc2_w _ => q_kL 3 e.2.2.2.1
  | .iload k => q_aLd 2 k q_tI
  | .iload_n k => q_aLd 1 k.val q_tI
  | .aload k => q_aLd 2 k q_tA
  | .aload_n k => q_aLd 1 k.val q_tA
  | .lload k => q_aLd 2 k q_tL
  | .lload_n k => q_aLd 1 k.val q_tL
  | .istore k => q_aSt 2 k (zm_L M) q_tI
  | .istore_n k => q_aSt 1 k.val (zm_L M) q_tI
  | .astore k => q_aSt 2 k (zm_L M) q_tR
  | .astore_n k => q_aSt 1 k.val (zm_L M) q_tR
  | .lstore k => q_aSt2 2 k (zm_L M)
  | .lstore_n k => q_aSt2 1 k.val (zm_L M)
  | .iinc k c => fun K A => q_and (q_le (Int.negSucc 127) c) (q_and (q_le c (Int.ofNat 127)) (q_aInc k (zm_L M) c K A))
  | .iadd => q_aBin q_iadd
  | .isub => q_aBin q_isub
  | .imul => q_aBin q_imul
  | .iand => q_aBin q_iand2
  | .ixor => q_aBin q_ianyb
  | .ior => q_aBin q_ior
  | .ishl => q_aBin q_ishl
  | .ishr => q_aBin q_ishr
  | .iushr => q_aBin q_ianyb
  | .idiv => q_aBin (q_div false)
  | .irem => q_aBin (q_div true)
  | .ineg => q_aUn q_ineg
  | .i2b => q_aUn (q_nar (Int.negSucc 127) (Int.ofNat 127))
  | .i2c => q_aUn (q_nar (Int.ofNat 0) (Int.ofNat 65535))
  | .i2l => q_aI2l
  | .lcmp => q_aLcm
  | .lshl => q_aLop q_tI
  | .lor => q_aLop q_tL
  | .ladd => q_aLop q_tL
  | .lmul => q_aLop q_tL
  | .dup => q_aDup
  | .dup2 => q_aDup2
  | .pop => q_aPop
  | .getfield _ => z_if (Nat.beq e.2.2.2.1 100) (q_aGetS e.2.2.2.2) (q_aGet e.2.2.2.1 e.2.2.2.2)
  | .getstatic _ => match e.2.2.2.1 with
    | 0 => q_aK 3 (q_vi (Int.ofNat 1, []))
    | _ => q_no
  | .arraylength => q_aLen'
  | .iaload => q_aLda (fun ty => Nat.beq ty 0)
  | .laload => q_aLda (fun ty => Nat.beq ty 3)
  | .baload => q_aLdb
  | .aaload => q_aLda (fun ty => Nat.beq ty 4)
  | .putfield _ => q_aPut (q_mod C) e.2.2.2.1 e.2.2.2.2 (q_fty (z_ty e.2.2.2.1 e.2.2.2.2))
  | .iastore => q_aSto (q_mod C) q_si
  | .bastore => q_aSto (q_mod C) q_sb'
  | .lastore => q_aSto (q_mod C) q_sl
  | .aastore => q_aSto (q_mod C) q_sa
  | .goto off => q_aGoto (z_tgt e.1 off)
  | .ifCond r off => q_aIf r (z_tgt e.1 off)
  | .if_icmp r off => q_aCmp r (z_tgt e.1 off)
  | .ifnull off => q_aNul false (z_tgt e.1 off)
  | .ifnonnull off => q_aNul true (z_tgt e.1 off)
  | .tableswitch dflt lo _ offs => fun K A => q_and (q_le (Int.negSucc 999) lo) (q_and (q_le lo (Int.ofNat 1000)) (q_aTab (z_tgt e.1 dflt) lo (offs.toList.map (z_tgt e.1)) K A))
  | .lookupswitch d ps => q_aLku d ps.toList
  | .ireturn => match zm_r M with
    | some ty => z_if (q_or (Nat.beq (q_fty ty) 1) (q_or (Nat.beq (q_fty ty) 4) (Nat.beq (q_fty ty) 5))) (q_aRet C (q_fty ty)) q_no
    | none => q_no
  | .lreturn => match zm_r M with
    | some .long => q_aRet C 2
    | _ => q_no
  | .areturn => match zm_r M with
    | some (.object _) => q_aRet C 3
    | _ => q_no
  | .return_ => match zm_r M with
    | none => q_aRetV C
    | _ => q_no
  | .invokevirtual _ => q_inv' Ms Cd C 0 e.2.2.2.1 e.2.2.2.2
  | .invokespecial _ => q_inv' Ms Cd C 1 e.2.2.2.1 e.2.2.2.2
  | .invokestatic _ => q_inv' Ms Cd C 2 e.2.2.2.1 e.2.2.2.2
  | _ => q_no
abbrev qX : Type := Nat × Bool × List Nat × (Unit × qAct)
noncomputable def q_hat (hs : List (Nat × List Nat)) (pc : Nat) : List Nat := List.rec (motive := fun _ => List Nat) [] (fun q _ ih => z_if (Nat.beq (Prod.fst q) pc) (Prod.snd q) ih) hs
noncomputable def q_cuts (C : qCon) : List qCut := C.2.2.2.2.2.2.2.1
noncomputable def q_code (Ms : List zM) (Cd : List (List qCon)) (C : qCon) (M : zM) : List qX := (zm_c M).map fun e => (e.1, q_any (fun c => Nat.beq (Prod.fst c) e.1) (q_cuts C), q_hat C.2.2.2.2.2.2.2.2 e.1, ((), q_act Ms Cd C M e))
noncomputable def q_fnd (pc : Nat) (cs : List qX) : Option qX := List.rec (motive := fun _ => Option qX) none (fun e _ ih => z_if (Nat.beq (Prod.fst e) pc) (some e) ih) cs
noncomputable def q_arr1 (m0 : Nat) (cur : Option qL) (A : qA) (c : qCut) : Bool := q_ca A fun pc ls st w => q_and (Nat.beq c.1 pc) (q_and (z_nil st) (q_fls (q_idl m0) fun σ =>
  q_sg ls (fun w σ => q_and (Nat.ble (List.length σ) c.2.1) (q_and (q_mvs σ ls c.2.2.2.1 w) (q_and (q_pm σ c.2.2.1 w) (Option.rec (motive := fun _ => Bool) true (fun M0 => q_sb σ c.2.2.2.2 fun m => q_cw w fun _ b cs _ _ => q_and (q_pr2 b cs m) (q_pr2 b cs (q_pl (q_sub M0 m) (Int.negSucc 0)))) cur)))) c.2.2.1.1 w σ))
noncomputable def q_arr (C : qCon) (cur : Option qL) (A : qA) : Bool := q_any (q_arr1 C.2.1 cur A) (q_cuts C)
noncomputable def q_run (arr : qA → Bool) (code : List qX) (f : Nat) : Bool → qA → Bool := Nat.rec (motive := fun _ => Bool → qA → Bool) (fun _ _ => false) (fun _ ih fst A => q_ca A fun pc ls st w => q_ob (q_fnd pc code) fun x => z_if (q_and x.2.1 (q_not fst)) (arr (pc, ls, st, w)) (q_hnt (fun w => x.2.2.2.2 (ih false) (pc, ls, st, w)) ls x.2.2.1 w)) f
noncomputable def q_ent (as : List qV) : Nat → List (Nat × qV) := List.rec (motive := fun _ => Nat → List (Nat × qV)) (fun _ => []) (fun a _ ih k => (k, a) :: ih (Nat.add k (z_if (Nat.beq a.1 2) 2 1))) as
noncomputable def q_fpc (ls : List (Nat × qV)) : (List (Nat × qV) → Bool) → Bool := List.rec (motive := fun _ => (List (Nat × qV) → Bool) → Bool) (fun k => k []) (fun q _ ih k => q_fn (Prod.fst q) fun i => ih fun t => k ((i, Prod.snd q) :: t)) ls
noncomputable def q_atag (a : qV) : Bool := q_or (q_c1 a) (q_or (Nat.beq a.1 2) (Nat.beq a.1 6))
noncomputable def q_cutok (Ms : List zM) (Cd : List (List qCon)) (C : qCon) (M : zM) (c : qCut) : Bool := q_and (Nat.ble C.2.1 c.2.1) (q_and (q_sco c.2.1 c.2.2.2.2) (q_run (q_arr C (some c.2.2.2.2)) (q_code Ms Cd C M) 30000 true (c.1, c.2.2.2.1, [], c.2.1, c.2.2.1.2)))
noncomputable def q_con (Ms : List zM) (Cd : List (List qCon)) (M : zM) (C : qCon) : Bool := q_and (q_sco C.2.1 (q_dl C)) (q_and (q_and (Nat.beq (zm_mc M) 0) (Nat.beq (zm_ms M) 0)) (q_and (q_and (q_all q_atag C.2.2.2.1) (Nat.ble (q_sum C.2.2.2.1) (zm_L M))) (q_and (q_fpc (q_ent C.2.2.2.1 0) fun ls => q_run (q_arr C none) (q_code Ms Cd C M) 30000 false (0, ls, [], C.2.1, C.2.2.1.2)) (q_all (q_cutok Ms Cd C M) (q_cuts C)))))
