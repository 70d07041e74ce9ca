/-! one instruction -/
theorem z_nz_ok {ρ : Nat → Int32} {f : Int32 → Int32 → Int32} {a b c : zV} (h : z_nz f a b = some c) : z_isI a = true ∧ z_isI b = true ∧ z_isI c = true ∧ z_I ρ c = f (z_I ρ a) (z_I ρ b) ∧ ¬ z_I ρ b = 0 := by
  obtain ⟨y, hy, h⟩ := z_ob_some h
  obtain ⟨h1, h⟩ := z_if_none h
  rw [z_cI_some hy]
  obtain ⟨i1, i2, i3, i4⟩ := z_op2_ok (ρ := ρ) h
  refine ⟨i1, i2, i3, i4, fun e => ?_⟩
  have e : y = 0 := e
  rw [e] at h1
  cases h1
section
variable {p : Program} {l : Launch} {e0 : Env} {R : Room} {s : State} {m : MethodId} {args : Array Value} {below : List Frame} {meth : Method} {c : Code} {Q : State → Prop} {E : zG} {J : (Nat → va_E) → Prop} {M : zM} {Ms : List zM} {PR : zR → Prop} {PC : Nat × List zV × List zV → Prop} {β : zB} {F : zF} {o : zO}
theorem zs_inv {kind idx a1 a2 : Nat} {i : Instr} (hC : zCtx p R s m args c E M) (hcm : zComOk) (hMs : ∀ (k : Nat) (N : zM), Ms[k]? = some N → zMok Ms N) (hi : i = (match kind with | 0 => .invokevirtual idx | 1 => .invokespecial idx | _ => .invokestatic idx)) (hk : kind < 3) (hl : zInvOk Ms (zm_y M).cls kind idx a1 a2)
    (hdg : decode (zm_b M) F.1 = .ok (i, 3)) (h : z_inv Ms M kind a1 a2 β F = some o) (hn : zNx (zWp p l e0 R s m args below meth c Q E J (zm_L M)) PR (zPC p l e0 R s m args below meth c Q E J (zm_L M) Ms β F) o) : zWp p l e0 R s m args below meth c Q E J (zm_L M) β F := by
  have hC0 := hC
  obtain ⟨hx, hb, hml, hown, hts, hE, hFx, -, -, hmc, hms, hfr, hlc⟩ := hC
  have hcm0 := hcm
  obtain ⟨-, -, -, -, -, cM, cmin, cmax, cabs⟩ := hcm
  have hdef : ∀ (h : (match Ms[a1]? with
      | some N => z_aInv kind a1 (zm_np N) (zm_mc N) (zm_ms N) (zm_ci N) (zm_mc M) (zm_ms M)
      | none => fun _ _ => none : zA) β F = some o) (a2 : Nat), zMcall Ms (zm_y M).cls kind idx a1 a2 → zWp p l e0 R s m args below meth c Q E J (zm_L M) β F := by
    intro h a2 hl
    cases e : Ms[a1]? with
    | none => rw [e] at h; cases h
    | some N => rw [e] at h; exact zs_Inv hC0 hMs hi hk e hl hdg h hn
  match a2, hl, h with
  | 2, hl', h' =>
    obtain ⟨hkd, hl2⟩ := hl'
    subst hkd
    subst hi
    exact zs_Obj hC0 hcm0 hl2 hdg h' hn
  | 3, hl', h' =>
    obtain ⟨hkd, hl2⟩ := hl'
    subst hkd
    subst hi
    exact zs_Cpy hC0 hcm0 hl2 hdg h' hn
  | 4, hl', h' =>
    obtain ⟨hkd, hl2⟩ := hl'
    subst hkd
    subst hi
    exact zs_M2 (idx := idx) hC0 (fun H locs ls rest x y hsz hsm hcc hss k => va_mmin hx hb (hml.trans hsz.symm) hown (hts _ hl2) (hts _ cmin.1) (hts _ cM) (hts _ cmin.2) hfr (by omega) hcc hss hdg k) h' hn
  | 5, hl', h' =>
    obtain ⟨hkd, hl2⟩ := hl'
    subst hkd
    subst hi
    exact zs_M2 (idx := idx) hC0 (fun H locs ls rest x y hsz hsm hcc hss k => va_mmax hx hb (hml.trans hsz.symm) hown (hts _ hl2) (hts _ cmax.1) (hts _ cM) (hts _ cmax.2) hfr (by omega) hcc hss hdg k) h' hn
  | 6, hl', h' =>
    obtain ⟨hkd, hl2⟩ := hl'
    subst hkd
    subst hi
    exact zs_M1 (idx := idx) hC0 (fun H locs ls rest x hsz hsm hcc hss k => va_mabs hx hb (hml.trans hsz.symm) hown (hts _ hl2) (hts _ cabs.1) (hts _ cM) (hts _ cabs.2) hfr (by omega) hcc hss hdg k) h' hn
  | 0, hl, h => exact hdef h 0 hl
  | 1, hl, h => exact hdef h 1 hl
  | n + 7, hl, h => exact hdef h (n + 7) hl
theorem z_ret_some {mc ms : Nat} {r : zR} (h : z_ret mc ms F r = some o) : F.2.2.2.2.1 = mc ∧ F.2.2.2.2.2 = ms ∧ o = .inr (.inr (.inl r)) := by
  obtain ⟨h1, h⟩ := z_if_some h
  obtain ⟨h2, h⟩ := z_if_some h
  exact ⟨z_beq h1, z_beq h2, (Option.some.inj h).symm⟩
theorem z_nil_ok {α : Type} {l : List α} (h : z_nil l = true) : l = [] := by
  cases l with
  | nil => rfl
  | cons a t => cases h
set_option maxHeartbeats 4000000 in
theorem zs_step {pc len a1 a2 : Nat} {i : Instr} (hC : zCtx p R s m args c E M) (hcl : zClsOk) (hcm : zComOk) (hMs : ∀ (k : Nat) (N : zM), Ms[k]? = some N → zMok Ms N) (hmn : meth.name = (zm_y M).name)
    (hI : ∀ β F v ty, decode (zm_b M) F.1 = .ok (.ireturn, 1) → zm_r M = some ty → F.2.2.1 = [v] → z_isI v = true → z_fit ty v = true → F.2.2.2.2.1 = zm_mc M → F.2.2.2.2.2 = zm_ms M → PR (β, some v, F.2.2.2.1) → zWp p l e0 R s m args below meth c Q E J (zm_L M) β F)
    (hA : ∀ β F k C, decode (zm_b M) F.1 = .ok (.areturn, 1) → zm_r M = some (.object C) → F.2.2.1 = [.inl (.ref k)] → F.2.2.2.2.1 = zm_mc M → F.2.2.2.2.2 = zm_ms M → PR (β, some (.inl (.ref k)), F.2.2.2.1) → zWp p l e0 R s m args below meth c Q E J (zm_L M) β F)
    (hLr : ∀ β F x, decode (zm_b M) F.1 = .ok (.lreturn, 1) → zm_r M = some .long → F.2.2.1 = [.inl (.long x)] → F.2.2.2.2.1 = zm_mc M → F.2.2.2.2.2 = zm_ms M → PR (β, some (.inl (.long x)), F.2.2.2.1) → zWp p l e0 R s m args below meth c Q E J (zm_L M) β F)
    (hV : ∀ β F, decode (zm_b M) F.1 = .ok (.return_, 1) → zm_r M = none → F.2.2.1 = [] → F.2.2.2.2.1 = zm_mc M → F.2.2.2.2.2 = zm_ms M → PR (β, none, F.2.2.2.1) → zWp p l e0 R s m args below meth c Q E J (zm_L M) β F)
    (he : zEok Ms M (pc, i, len, a1, a2)) (hpc : pc = F.1) (h : z_act (zg_r E) Ms M (pc, i, len, a1, a2) β F = some o) (hn : zNx (zWp p l e0 R s m args below meth c Q E J (zm_L M)) PR (zPC p l e0 R s m args below meth c Q E J (zm_L M) Ms β F) o) : zWp p l e0 R s m args below meth c Q E J (zm_L M) β F := by
  subst hpc
  obtain ⟨hdg, hlk, hjm⟩ := he
  have hC0 := hC
  obtain ⟨hx, hb, hml, hown, hts, hE, hFx, -⟩ := hC
  have hE0 := hE
  obtain ⟨-, -, -, e4, e5, e6, -, -, -, -, ⟨g4, -⟩, -⟩ := hE
  cases i
  case iconst k => exact zs_K (fun H locs ls rest k => lv_iconst hx hb hdg rfl k) h hn
  case bipush k => exact zs_K (fun H locs ls rest k => lv_bipush hx hb hdg rfl k) h hn
  case sipush k => exact zs_K (fun H locs ls rest k => lv_sipush hx hb hdg rfl k) h hn
  case lconst k => exact zs_K (fun H locs ls rest k => lv_lconst hx hb hdg rfl k) h hn
  case ldc idx =>
    match a2, hlk, h with
    | 1, hlk, h =>
      obtain ⟨h1, h2⟩ := hlk
      subst h2
      rw [h1] at hown
      exact zs_K (fun H locs ls rest k => va_ldcS hx hb hown e4 hdg k) h hn
    | 2, hlk, h =>
      obtain ⟨h1, h2⟩ := hlk
      subst h2
      rw [h1] at hown
      exact zs_K (fun H locs ls rest k => va_ldcS hx hb hown g4 hdg k) h hn
    | 0, hlk, h => exact zs_K (fun H locs ls rest k => lv_ldc hx hb hown (hts _ hlk) hdg k) h hn
    | n + 3, hlk, h => exact zs_K (fun H locs ls rest k => lv_ldc hx hb hown (hts _ hlk) hdg k) h hn
  case ldc_w idx => exact zs_K (fun H locs ls rest k => lv_ldcw hx hb hown (hts _ hlk) hdg k) h hn
  case ldc2_w idx => exact zs_K (fun H locs ls rest k => lv_ldc2 hx hb hown (hts _ hlk) hdg k) h hn
  case getstatic idx =>
    match a1, hlk, h with
    | 0, hlk, h => exact zs_gets hC0 hlk (v := .inl (.int 1)) e5 hdg h hn
    | n + 1, hlk, h => exact zs_gets hC0 hlk (v := .inl (.retAddr 0)) e6 hdg h hn
  case iload k => exact zs_Ld (fun v H locs ls rest hv hl k => by rw [show zv E v = _ from z_isI_c hv] at hl k; exact lv_iload hx hb hdg hl k) h hn
  case iload_n k => exact zs_Ld (fun v H locs ls rest hv hl k => by rw [show zv E v = _ from z_isI_c hv] at hl k; exact lv_iload_n hx hb hdg rfl hl k) h hn
  case aload k => exact zs_Ld (fun v H locs ls rest hv hl k => by obtain ⟨q, rfl⟩ := z_isR_some hv; exact lv_aload hx hb hdg hl k) h hn
  case aload_n k => exact zs_Ld (fun v H locs ls rest hv hl k => by obtain ⟨q, rfl⟩ := z_isR_some hv; exact lv_aload_n hx hb hdg rfl hl k) h hn
  case lload k => exact zs_Ld (fun v H locs ls rest hv hl k => by obtain ⟨q, rfl⟩ := z_isL_some hv; exact lv_lload hx hb hdg hl k) h hn
  case lload_n k => exact zs_Ld (fun v H locs ls rest hv hl k => by obtain ⟨q, rfl⟩ := z_isL_some hv; exact lv_lload_n hx hb hdg rfl hl k) h hn
  case istore k => exact zs_St hFx.2.2.2 (fun v H locs ls rest lv lv' hv hl hi he k => by rw [show zv E v = _ from z_isI_c hv] at he ⊢; exact lv_istore hx hb hdg hl hi he k) h hn
  case istore_n k => exact zs_St hFx.2.2.2 (fun v H locs ls rest lv lv' hv hl hi he k => by rw [show zv E v = _ from z_isI_c hv] at he ⊢; exact lv_istore_n hx hb hdg rfl hl hi he k) h hn
  case astore k => exact zs_St hFx.2.2.2 (fun v H locs ls rest lv lv' hv hl hi he k => by obtain ⟨q, rfl⟩ := z_isR_some hv; exact lv_astore hx hb hdg hl hi he k) h hn
  case astore_n k => exact zs_St hFx.2.2.2 (fun v H locs ls rest lv lv' hv hl hi he k => by obtain ⟨q, rfl⟩ := z_isR_some hv; exact lv_astore_n hx hb hdg rfl hl hi he k) h hn
  case lstore k => exact zs_St2 hFx.2.2.2 (fun v H locs ls rest lv lv' hv hl hi he k => by obtain ⟨q, rfl⟩ := z_isL_some hv; exact lv_lstore hx hb hdg hl hi he k) h hn
  case lstore_n k => exact zs_St2 hFx.2.2.2 (fun v H locs ls rest lv lv' hv hl hi he k => by obtain ⟨q, rfl⟩ := z_isL_some hv; exact lv_lstore_n hx hb hdg rfl hl hi he k) h hn
  case iinc k q => exact zs_Inc hC0 hdg h hn
  case iadd => exact zs_bin (g := (· + ·)) (cond := fun _ => True) (fun a b c h => ⟨(z_add_ok (ρ := zg_r E) h).1, (z_add_ok (ρ := zg_r E) h).2.1, (z_add_ok (ρ := zg_r E) h).2.2.1, (z_add_ok h).2.2.2, trivial⟩) (fun H locs ls rest x y _ k => lv_iadd hx hb hdg k) h hn
  case isub => exact zs_bin (g := (· - ·)) (cond := fun _ => True) (fun a b c h => ⟨(z_op2_ok (ρ := zg_r E) h).1, (z_op2_ok (ρ := zg_r E) h).2.1, (z_op2_ok (ρ := zg_r E) h).2.2.1, (z_op2_ok h).2.2.2, trivial⟩) (fun H locs ls rest x y _ k => lv_isub hx hb hdg k) h hn
  case imul => exact zs_bin (g := (· * ·)) (cond := fun _ => True) (fun a b c h => ⟨(z_op2_ok (ρ := zg_r E) h).1, (z_op2_ok (ρ := zg_r E) h).2.1, (z_op2_ok (ρ := zg_r E) h).2.2.1, (z_op2_ok h).2.2.2, trivial⟩) (fun H locs ls rest x y _ k => lv_imul hx hb hdg k) h hn
  case iand => exact zs_bin (g := (· &&& ·)) (cond := fun _ => True) (fun a b c h => ⟨(z_op2_ok (ρ := zg_r E) h).1, (z_op2_ok (ρ := zg_r E) h).2.1, (z_op2_ok (ρ := zg_r E) h).2.2.1, (z_op2_ok h).2.2.2, trivial⟩) (fun H locs ls rest x y _ k => lv_iand hx hb hdg k) h hn
  case ior => exact zs_bin (g := (· ||| ·)) (cond := fun _ => True) (fun a b c h => ⟨(z_op2_ok (ρ := zg_r E) h).1, (z_op2_ok (ρ := zg_r E) h).2.1, (z_op2_ok (ρ := zg_r E) h).2.2.1, (z_op2_ok h).2.2.2, trivial⟩) (fun H locs ls rest x y _ k => lv_ior hx hb hdg k) h hn
  case ishl => exact zs_bin (g := fun x y => x <<< (y &&& 31)) (cond := fun _ => True) (fun a b c h => ⟨(z_op2_ok (ρ := zg_r E) h).1, (z_op2_ok (ρ := zg_r E) h).2.1, (z_op2_ok (ρ := zg_r E) h).2.2.1, (z_op2_ok h).2.2.2, trivial⟩) (fun H locs ls rest x y _ k => lv_ishl hx hb hdg k) h hn
  case ishr => exact zs_bin (g := fun x y => x >>> (y &&& 31)) (cond := fun _ => True) (fun a b c h => ⟨(z_op2_ok (ρ := zg_r E) h).1, (z_op2_ok (ρ := zg_r E) h).2.1, (z_op2_ok (ρ := zg_r E) h).2.2.1, (z_op2_ok h).2.2.2, trivial⟩) (fun H locs ls rest x y _ k => lv_ishr hx hb hdg k) h hn
  case iushr => exact zs_bin (g := fun x y => (x.toUInt32 >>> (y.toUInt32 &&& Int32.toUInt32 31)).toInt32) (cond := fun _ => True) (fun a b c h => ⟨(z_op2_ok (ρ := zg_r E) h).1, (z_op2_ok (ρ := zg_r E) h).2.1, (z_op2_ok (ρ := zg_r E) h).2.2.1, (z_op2_ok h).2.2.2, trivial⟩) (fun H locs ls rest x y _ k => lv_iushr hx hb hdg rfl k) h hn
  case idiv => exact zs_bin (g := (· / ·)) (cond := fun y => ¬ y = 0) (fun a b c h => z_nz_ok h) (fun H locs ls rest x y hy k => lv_idiv hx hb hdg hy k) h hn
  case irem => exact zs_bin (g := fun x y => x - x / y * y) (cond := fun y => ¬ y = 0) (fun a b c h => z_nz_ok h) (fun H locs ls rest x y hy k => lv_irem hx hb hdg hy k) h hn
  case ineg => exact zs_un (fun H locs ls rest x k => lv_ineg hx hb hdg k) h hn
  case i2b => exact zs_un (fun H locs ls rest x k => lv_i2b hx hb hdg rfl k) h hn
  case i2c => exact zs_un (fun H locs ls rest x k => lv_i2c hx hb hdg rfl k) h hn
  case i2l => exact zs_i2l (fun H locs ls rest x k => lv_i2l hx hb hdg rfl k) h hn
  case ixor => exact zs_bin (g := (· ^^^ ·)) (cond := fun _ => True) (fun a b c h => ⟨(z_op2_ok (ρ := zg_r E) h).1, (z_op2_ok (ρ := zg_r E) h).2.1, (z_op2_ok (ρ := zg_r E) h).2.2.1, (z_op2_ok h).2.2.2, trivial⟩) (fun H locs ls rest x y _ k => lv_ixor hx hb hdg k) h hn
  case lcmp => exact zs_lcm (fun H locs ls rest x y k => W.lcmp hx hb hdg k) h hn
  case lshl => exact zs_lsh (fun H locs ls rest x y k => lv_lshl hx hb hdg rfl k) h hn
  case lor => exact zs_lbin (fun H locs ls rest x y k => lv_lor hx hb hdg k) h hn
  case laload => exact zs_Lld hC0 hdg h hn
  case lookupswitch d ps => exact zs_Lku hC0 hlk hjm hdg h hn
  case ladd => exact zs_lbin (fun H locs ls rest x y k => lv_ladd hx hb hdg k) h hn
  case lmul => exact zs_lbin (fun H locs ls rest x y k => lv_lmul hx hb hdg k) h hn
  case dup => exact zs_Dup hC0 hdg h hn
  case dup2 => exact zs_Dup2 hC0 hdg h hn
  case pop => exact zs_Pop hC0 hdg h hn
  case getfield idx =>
    have hlk : if a1 = 100 then _ else _ := hlk
    have h : z_if (Nat.beq a1 100) (z_aGetS a2) (z_aGet a1 a2) β F = some o := h
    cases e : Nat.beq a1 100 with
    | true =>
      rw [e] at h
      rw [if_pos (z_beq e)] at hlk
      exact zs_GetS hC0 hlk hdg h hn
    | false =>
      rw [e] at h
      rw [if_neg (z_nbeq e)] at hlk
      exact zs_Get hC0 hcl hlk hdg h hn
  case arraylength => exact zs_Len hC0 hdg h hn
  case iaload => exact zs_Ild hC0 hdg h hn
  case baload => exact zs_Bld hC0 hdg h hn
  case aaload => exact zs_Ald hC0 hdg h hn
  case putfield idx => exact zs_Put hC0 hcl hmn hlk hdg h hn
  case iastore => exact zs_Ist hC0 hdg h hn
  case bastore => exact zs_Bst hC0 hdg h hn
  case lastore => exact zs_Lst hC0 hdg h hn
  case aastore => exact zs_Ast hC0 hdg h hn
  case newarray t => exact zs_Mka hC0 hlk hdg h hn
  case anewarray idx => exact zs_Mkq hC0 hlk hdg h hn
  case new idx => exact zs_New hC0 hcl hlk hdg h hn
  case goto off => exact zs_Goto hC0 hjm hdg h hn
  case ifCond r off => exact zs_If hC0 hjm hdg h hn
  case if_icmp r off => exact zs_Cmp hC0 hjm hdg h hn
  case ifnull off => exact zs_Null hC0 hdg h hn
  case ifnonnull off => exact zs_Nonn hC0 hjm hdg h hn
  case tableswitch d lo hi offs => exact zs_Tab hC0 hlk hjm hdg h hn
  case ireturn =>
    have h : (match zm_r M with
      | some ty => z_aRet (fun v => z_if (z_isI v) (z_fit ty v) false) (zm_mc M) (zm_ms M)
      | none => fun _ _ => none : zA) β F = some o := h
    cases hr : zm_r M with
    | none => rw [hr] at h; cases h
    | some ty =>
      rw [hr] at h
      obtain ⟨v, t, hs, h⟩ := z_lc_some h
      obtain ⟨h1, h⟩ := z_if_some h
      obtain ⟨h2, h⟩ := z_if_some h
      obtain ⟨h3, h4, rfl⟩ := z_ret_some h
      rw [z_nil_ok h2] at hs
      have h1 : z_if (z_isI v) (z_fit ty v) false = true := h1
      cases e : z_isI v with
      | false => rw [e] at h1; cases h1
      | true =>
        rw [e] at h1
        exact hI β F v ty hdg hr hs e h1 h3 h4 hn
  case lreturn =>
    have h : (match zm_r M with
      | some .long => z_aRet z_isL (zm_mc M) (zm_ms M)
      | _ => fun _ _ => none : zA) β F = some o := h
    cases hr : zm_r M with
    | none => rw [hr] at h; cases h
    | some ty =>
      rw [hr] at h
      cases ty with
      | long =>
        obtain ⟨v, t, hs, h⟩ := z_lc_some (show z_aRet z_isL (zm_mc M) (zm_ms M) β F = some o from h)
        obtain ⟨h1, h⟩ := z_if_some h
        obtain ⟨h2, h⟩ := z_if_some h
        obtain ⟨h3, h4, rfl⟩ := z_ret_some h
        rw [z_nil_ok h2] at hs
        obtain ⟨k, ek⟩ := z_isL_some h1
        rw [ek] at hs hn
        exact hLr β F k hdg hr hs h3 h4 hn
      | _ => cases h
  case areturn =>
    have h : z_aRetA (zm_r M) (zm_mc M) (zm_ms M) β F = some o := h
    cases hr : zm_r M with
    | none => rw [hr] at h; cases h
    | some ty =>
      rw [hr] at h
      cases ty with
      | object C =>
        obtain ⟨v, t, hs, h⟩ := z_lc_some (show z_aRet z_isR (zm_mc M) (zm_ms M) β F = some o from h)
        obtain ⟨h1, h⟩ := z_if_some h
        obtain ⟨h2, h⟩ := z_if_some h
        obtain ⟨h3, h4, rfl⟩ := z_ret_some h
        rw [z_nil_ok h2] at hs
        obtain ⟨k, ek⟩ := z_isR_some h1
        rw [ek] at hs hn
        exact hA β F k C hdg hr hs h3 h4 hn
      | _ => cases h
  case return_ =>
    have h : (match zm_r M with
      | none => z_aRetV (zm_mc M) (zm_ms M)
      | _ => fun _ _ => none : zA) β F = some o := h
    cases hr : zm_r M with
    | some ty => rw [hr] at h; cases h
    | none =>
      rw [hr] at h
      obtain ⟨h2, h⟩ := z_if_some h
      obtain ⟨h3, h4, rfl⟩ := z_ret_some h
      exact hV β F hdg hr (z_nil_ok h2) h3 h4 hn
  case invokevirtual idx => exact zs_inv (kind := 0) hC0 hcm hMs rfl (by decide) hlk hdg h hn
  case invokespecial idx => exact zs_inv (kind := 1) hC0 hcm hMs rfl (by decide) hlk hdg h hn
  case invokestatic idx => exact zs_inv (kind := 2) hC0 hcm hMs rfl (by decide) hlk hdg h hn
  all_goals (cases h)
end
