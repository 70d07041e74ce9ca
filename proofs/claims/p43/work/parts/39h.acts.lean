/-! the checker is sound: all instructions -/
section
variable {S : Nat → Int32} {Ms : List zM} {Cd : List (List qCon)} {d : Nat} {M : zM} {X0 : zH} {n1 : Nat} {v0 v1 : Nat → Int} {C : qCon} {D : Int}
theorem q_nz_int {g : Int32 → Int32 → Int32} (a b : Int32) (h : b.toInt ≠ 0) : z_nz g (.inl (.int a)) (.inl (.int b)) = some (.inl (.int (g a b))) := by
  show z_if (Nat.beq b.toBitVec.toNat 0) none (z_op2 g (.inl (.int a)) (.inl (.int b))) = _
  have : Nat.beq b.toBitVec.toNat 0 = false := by
    cases hb : Nat.beq b.toBitVec.toNat 0 with
    | false => rfl
    | true =>
      exfalso
      apply h
      rw [z_to0 hb]
      rfl
  rw [this]
  exact z_op2_int g a b
theorem q_kA {k : Nat} {v : Nat → Int} {a : qV} {z : zV} (h : q_rg k v a z) (ht : q_tA a = true) : z_isR z = true := by
  rcases q_or_iff.mp ht with t | t
  · exact q_kR h t
  · rw [(h v (q_agr.refl _ _)).2.2.2.2.2 (q_beq_iff.mp t)]; rfl
theorem q_rep6 {v : Nat → Int} : q_rep v (6, 1, q_0, q_0) (.inl (.ref 1000004)) := ⟨(fun h => by cases h), (fun h => by cases h), (fun h => by cases h), (fun h => by cases h), (fun h => by cases h), fun _ => rfl⟩
theorem q_aGetS_ok {L : zR → Prop} {m j : Nat} {e : zE} (hs : q_stp S Ms d M L e) (he : z_act S Ms M e = z_aGetS j) : q_aok S Ms d M L X0 m n1 v1 e (q_aGetS j) := by
  refine q_aok_of fun K pc ls st w v cls cst X h hK hn hv hl hst hw hpc => ?_
  simp only [q_aGetS, q_ca_eq, q_lc_iff, q_and_iff, q_fn_eq] at h
  obtain ⟨o, t, e1, h1, h2, h⟩ := h
  subst e1
  obtain ⟨zo, s1, e3, g1, g2⟩ := hst.cons
  subst e3
  have ez := (g1 v (q_agr.refl _ _)).2.2.2.2.2 (q_beq_iff.mp h1)
  rw [q_beq_iff.mp h2] at ez
  subst ez
  rcases q_if_iff.mp h with ⟨hj, h⟩ | ⟨hj, h⟩
  · refine hs _ (Nat.add pc 3, cls, .inl (.ref 1000004) :: s1, X, zm_mc M, zm_ms M) hpc ?_ (hK.go h hn hv (q_ext.refl _ _) hl (q_stg.mk (fun _ _ => q_rep6) g2) hw)
    rw [he]
    show some (Sum.inl (([] : zB), (Nat.add pc 3, cls, z_if (Nat.beq j 0) (.inl (.ref z_STV2)) (.inl (.int 0)) :: s1, X, zm_mc M, zm_ms M))) = _
    rw [hj]
  · refine hs _ (Nat.add pc 3, cls, .inl (.int 0) :: s1, X, zm_mc M, zm_ms M) hpc ?_ (hK.go h hn hv (q_ext.refl _ _) hl (q_stg.mk (q_rg_vi (q_den.c _)) g2) hw)
    rw [he]
    show some (Sum.inl (([] : zB), (Nat.add pc 3, cls, z_if (Nat.beq j 0) (.inl (.ref z_STV2)) (.inl (.int 0)) :: s1, X, zm_mc M, zm_ms M))) = _
    rw [hj]
theorem q_aLen'_ok {L : zR → Prop} {m : Nat} {e : zE} (hs : q_stp S Ms d M L e) (he : z_act S Ms M e = z_aLen S) : q_aok S Ms d M L X0 m n1 v1 e q_aLen' := by
  intro K A v F h hK hn hv hg hpc
  have h0 := h
  simp only [q_aLen', q_ca_eq, q_lc_iff] at h
  obtain ⟨o, t, e1, h⟩ := h
  rcases q_if_iff.mp h with ⟨h1, h⟩ | ⟨_, h⟩
  · refine q_aok_of (act := q_aLen') (e := e) (Ms := Ms) (fun K pc ls st w v cls cst X h hK hn hv hl hst hw hpc => ?_) K A v F h0 hK hn hv hg hpc
    simp only [q_aLen', q_ca_eq, q_lc_iff] at h
    obtain ⟨o, t, e1, h⟩ := h
    subst e1
    obtain ⟨zo, s1, e3, g1, g2⟩ := hst.cons
    subst e3
    rcases q_if_iff.mp h with ⟨h1, h⟩ | ⟨_, h⟩
    · obtain ⟨h1, h2⟩ := q_and_iff.mp h1
      have ez := (g1 v (q_agr.refl _ _)).2.2.2.2.2 (q_beq_iff.mp h1)
      rw [q_beq_iff.mp h2] at ez
      subst ez
      rw [q_fn_eq] at h
      exact hs _ (Nat.add pc 1, cls, .inl (.int 11) :: s1, X, zm_mc M, zm_ms M) hpc (by rw [he]; rfl) (hK.go h hn hv (q_ext.refl _ _) hl (q_stg.mk (q_rg_vi (q_den.c _)) g2) hw)
    · exact q_aLen_ok hs he K _ v _ h hK hn hv (fun u hu => ⟨rfl, hl u hu, ⟨zo, s1, rfl, g1 u hu, g2 u hu⟩, hw u hu, rfl⟩) hpc
  · exact q_aLen_ok hs he K _ v F h hK hn hv (by rw [← e1]; exact hg) hpc
theorem q_sgn_in : ∀ i, i < 11 → ∃ x : Int32, z_nth z_sgn i = some x ∧ 37 ≤ x.toInt ∧ x.toInt ≤ 62 := fun i hi => by
  have h : ∀ j, j < 11 → 37 ≤ ((z_nth z_sgn j).getD 0).toInt ∧ ((z_nth z_sgn j).getD 0).toInt ≤ 62 ∧ (z_nth z_sgn j).isSome = true := by decide +kernel
  obtain ⟨a, b, c⟩ := h i hi
  obtain ⟨x, hx⟩ := Option.isSome_iff_exists.mp c
  rw [hx] at a b
  exact ⟨x, hx, a, b⟩
theorem q_aLdb_ok {L : zR → Prop} {m : Nat} {e : zE} (hs : q_stp S Ms d M L e) (he : z_act S Ms M e = z_aBld) (hr : q_aok S Ms d M L X0 m n1 v1 e (q_aLda (fun ty => q_or (Nat.beq ty 1) (Nat.beq ty 2)))) : q_aok S Ms d M L X0 m n1 v1 e q_aLdb := by
  refine q_aok_of fun K pc ls st w v cls cst X h hK hn hv hl hst hw hpc => ?_
  simp only [q_aLdb, q_ca_eq, q_lc_iff] at h
  obtain ⟨i, s, e1, o, t, e2, h⟩ := h
  subst e1; subst e2
  rcases q_if_iff.mp h with ⟨h1, h⟩ | ⟨_, h⟩
  · obtain ⟨h1, h2⟩ := q_and_iff.mp h1
    obtain ⟨zi, s1, e3, gi, g2⟩ := hst.cons
    subst e3
    obtain ⟨zo, s2, e4, g1, g4⟩ := g2.cons
    subst e4
    have ez := (g1 v (q_agr.refl _ _)).2.2.2.2.2 (q_beq_iff.mp h1)
    rw [q_beq_iff.mp h2] at ez
    subst ez
    simp only [q_and_iff, q_cw_eq] at h
    obtain ⟨h3, h4, h⟩ := h
    obtain ⟨x, e6, dx⟩ := gi.i h3
    subst e6
    obtain ⟨b1, b2⟩ := hw.win dx h4
    have b1 : 0 ≤ x.toInt := b1
    have b2 : x.toInt ≤ 10 := b2
    obtain ⟨z1, z2⟩ := z_in_of (i := x) (n := 11) b1 (by omega)
    obtain ⟨y, y1, y2, y3⟩ := q_sgn_in x.toBitVec.toNat (by omega)
    obtain ⟨w', l, v', k1, k2, k3, k4⟩ := q_fr0_ok (z := y.toInt) h hw y2 y3
    have k1 : q_fn (Nat.add pc 1) (fun pc => K (pc, ls, q_vi l :: t, w')) = true := k1
    rw [q_fn_eq] at k1
    refine hs _ (Nat.add pc 1, cls, .inl (.int y) :: s2, X, zm_mc M, zm_ms M) hpc ?_ (hK.go k1 hn hv k2 (hl.ext k2) (q_stg.mk (q_rg_vi k4) (g4.ext k2)) k3)
    rw [he]
    show z_if (z_in x 11) (z_ob (z_nth z_sgn x.toBitVec.toNat) fun y => z_go [] (pc, cls, Sum.inl (Value.int x) :: Sum.inl (Value.ref 1000004) :: s2, X, zm_mc M, zm_ms M) 1 (.inl (.int y) :: s2)) none = _
    rw [z1, y1]
    rfl
  · exact hr K _ v _ h hK hn hv (fun u hu => ⟨rfl, hl u hu, hst u hu, hw u hu, rfl⟩) hpc
theorem q_act_ok {e : zE} (hb : q_base' Ms) (hM : ∀ e ∈ zm_c M, zEok Ms M e) (he : e ∈ zm_c M) (hd : q_den n1 v1 (q_dl C) D) (hD : D.toNat ≤ d) (hc : q_calls S Ms Cd D) (hm : C.2.1 ≤ n1) (h0 : q_agr C.2.1 v0 v1) : q_aok S Ms d M (q_LC S C X0 v0) X0 (q_mod C) n1 v1 e (q_act Ms Cd C M e) := by
  have st := q_stp_of (S := S) (d := d) (L := q_LC S C X0 v0) hb hM he
  have rt := q_rtp_of (S := S) (d := d) (L := q_LC S C X0 v0) hb hM he
  obtain ⟨pc, i, len, a1, a2⟩ := e
  cases i
  case iconst k => exact q_kI_ok st rfl (fun h1 h2 => by have h1 : -128 ≤ k := h1; have h2 : k ≤ 127 := h2; exact Int32.toInt_ofInt_of_le (by omega) (by omega))
  case bipush k => exact q_kI_ok st rfl (fun h1 h2 => by have h1 : -128 ≤ k := h1; have h2 : k ≤ 127 := h2; rw [Int8.toInt_toInt32]; exact Int8.toInt_ofInt_of_le (by omega) (by omega))
  case sipush k => exact q_kI_ok st rfl (fun h1 h2 => by have h1 : -32768 ≤ k := h1; have h2 : k ≤ 32767 := h2; rw [Int16.toInt_toInt32]; exact Int16.toInt_ofInt_of_le (by omega) (by omega))
  case lconst k => exact q_aK_ok st rfl (fun _ _ => q_rg_vl (by
    rw [Int64.toInt_ofNat_of_lt (by have := k.isLt; omega)]
    exact q_den.c _))
  case ldc idx =>
    match a2, he, st, rt with
    | 1, _, _, _ => exact q_no_ok
    | 2, _, st, _ => exact q_aK_ok st rfl (fun _ _ v' _ => ⟨(fun h => by cases h), (fun h => by cases h), (fun h => by cases h), (fun h => by cases h), (fun h => by cases h), fun _ => rfl⟩)
    | 0, _, st, _ => exact q_kN_ok st rfl
    | n + 3, _, st, _ => exact q_kN_ok st rfl
  case ldc_w idx => exact q_kN_ok st rfl
  case ldc2_w idx => exact q_kL_ok st rfl
  case iload k => exact q_aLd_ok st rfl q_kInt
  case iload_n k => exact q_aLd_ok st rfl q_kInt
  case aload k => exact q_aLd_ok st rfl q_kA
  case aload_n k => exact q_aLd_ok st rfl q_kA
  case lload k => exact q_aLd_ok st rfl q_kLg
  case lload_n k => exact q_aLd_ok st rfl q_kLg
  case istore k => exact q_aSt_ok st rfl q_kInt
  case istore_n k => exact q_aSt_ok st rfl q_kInt
  case astore k => exact q_aSt_ok st rfl q_kR
  case astore_n k => exact q_aSt_ok st rfl q_kR
  case lstore k => exact q_aSt2_ok st rfl
  case lstore_n k => exact q_aSt2_ok st rfl
  case iinc k c => exact q_aInc_ok st rfl
  case iadd => exact q_aBin_ok st rfl (fun a b _ => z_add_int a b) (fun _ => q_iadd_ok)
  case isub => exact q_aBin_ok st rfl (fun a b _ => z_op2_int _ a b) (fun _ => q_isub_ok)
  case imul => exact q_aBin_ok st rfl (fun a b _ => z_op2_int _ a b) (fun _ => q_imul_ok)
  case iand => exact q_aBin_ok st rfl (fun a b _ => z_op2_int _ a b) (fun _ => q_iand2_ok)
  case ixor => exact q_aBin_ok st rfl (fun a b _ => z_op2_int _ a b) (fun _ => q_ianyb_ok _)
  case ior => exact q_aBin_ok st rfl (fun a b _ => z_op2_int _ a b) (fun _ => q_ior_ok)
  case ishl => exact q_aBin_ok st rfl (fun a b _ => z_op2_int _ a b) (fun _ => q_ishl_ok)
  case ishr => exact q_aBin_ok st rfl (fun a b _ => z_op2_int _ a b) (fun _ => q_ishr_ok)
  case iushr => exact q_aBin_ok (c := fun _ => True) (g := fun x y => (x.toUInt32 >>> (y.toUInt32 &&& Int32.toUInt32 31)).toInt32) st rfl (fun a b _ => z_op2_int _ a b) (fun _ => q_ianyb_ok (fun x y => (x.toUInt32 >>> (y.toUInt32 &&& Int32.toUInt32 31)).toInt32))
  case idiv => exact q_aBin_ok st rfl (fun a b h => q_nz_int a b h) (fun _ => q_div_ok false)
  case irem => exact q_aBin_ok st rfl (fun a b h => q_nz_int a b h) (fun _ => q_div_ok true)
  case ineg => exact q_aUn_ok st rfl (fun a => z_op1_int _ a) (fun h hw hx => q_ineg_ok h hw hx)
  case i2b => exact q_aUn_ok st rfl (fun a => z_op1_int _ a) (fun {X x k w v a} h hw hx => q_nar_ok h hw hx (q_i2b a).1.1 (q_i2b a).1.2 (q_i2b a).2)
  case i2c => exact q_aUn_ok st rfl (fun a => z_op1_int _ a) (fun {X x k w v a} h hw hx => q_nar_ok h hw hx (q_i2c a).1.1 (q_i2c a).1.2 (q_i2c a).2)
  case i2l => exact q_aI2l_ok st rfl
  case lcmp => exact q_aLcm_ok st rfl
  case lshl => exact q_aLop_ok st rfl (fun {k v b zb} a h hk => by
    obtain ⟨x, e1, _⟩ := h.i hk
    subst e1
    exact ⟨_, _, rfl, rfl⟩)
  case lor => exact q_aLop_ok st rfl (fun {k v b zb} a h hk => by
    obtain ⟨x, e1, _⟩ := h.l hk
    subst e1
    exact ⟨_, _, rfl, rfl⟩)
  case ladd => exact q_aLop_ok st rfl (fun {k v b zb} a h hk => by
    obtain ⟨x, e1, _⟩ := h.l hk
    subst e1
    exact ⟨_, _, rfl, rfl⟩)
  case lmul => exact q_aLop_ok st rfl (fun {k v b zb} a h hk => by
    obtain ⟨x, e1, _⟩ := h.l hk
    subst e1
    exact ⟨_, _, rfl, rfl⟩)
  case dup => exact q_aDup_ok st rfl
  case dup2 => exact q_aDup2_ok st rfl
  case pop => exact q_aPop_ok st rfl
  case getfield idx =>
    show q_aok S Ms d M (q_LC S C X0 v0) X0 (q_mod C) n1 v1 _ (z_if (Nat.beq a1 100) (q_aGetS a2) (q_aGet a1 a2))
    cases hb100 : Nat.beq a1 100 with
    | true =>
      refine q_aGetS_ok st ?_
      show z_if (Nat.beq a1 100) (z_aGetS a2) (z_aGet a1 a2) = _
      rw [hb100]
    | false => exact q_aGet_ok st rfl
  case getstatic idx =>
    match a1, he, st, rt with
    | 0, _, st, _ => exact q_aK_ok st rfl (fun _ _ => q_rg_vi (q_den.c _))
    | n + 1, _, _, _ => exact q_no_ok
  case putfield idx => exact q_aPut_ok st rfl
  case arraylength => exact q_aLen'_ok st rfl
  case iaload =>
    refine q_aLda_ok (ok := fun ty => Nat.beq ty 0) (zf := z_aIld S) (zok := z_isI) (t1 := 0) (t2 := 0) st rfl (fun ty h => ?_) (fun _ => rfl) (fun pc cls i k t X c hk => ?_)
    · have e := q_beq_iff.mp h
      exact ⟨Or.inl e, fun z hz => by
        obtain ⟨x, ex⟩ := hz.1 (Or.inl e)
        rw [ex]; rfl⟩
    · have b0 : Nat.beq k z_SCR = false := by
        cases hb : Nat.beq k z_SCR with
        | false => rfl
        | true =>
          have : k = 1000000 := q_beq_iff.mp hb
          omega
      show z_if (Nat.beq k z_SCR) _ _ = _
      rw [b0]
  case baload =>
    refine q_aLdb_ok st rfl ?_
    refine q_aLda_ok (ok := fun ty => q_or (Nat.beq ty 1) (Nat.beq ty 2)) (zf := z_aBld) (zok := z_isI) (t1 := 1) (t2 := 2) st rfl (fun ty h => ?_) (fun h => by cases h) (fun pc cls i k t X c hk => ?_)
    · rcases q_or_iff.mp h with h | h
      · have e := q_beq_iff.mp h
        exact ⟨Or.inl e, fun z hz => by
          obtain ⟨x, ex⟩ := hz.1 (Or.inr (Or.inl e))
          rw [ex]; rfl⟩
      · have e := q_beq_iff.mp h
        exact ⟨Or.inr e, fun z hz => by
          obtain ⟨x, ex⟩ := hz.1 (Or.inr (Or.inr e))
          rw [ex]; rfl⟩
    · have b0 : ∀ q, 1000000 ≤ q → Nat.beq k q = false := fun q hq => by
        cases hb : Nat.beq k q with
        | false => rfl
        | true => have := q_beq_iff.mp hb; omega
      show z_if (Nat.beq k z_STV) _ (z_if (Nat.beq k z_STV2) _ _) = _
      rw [b0 z_STV (by decide), b0 z_STV2 (by decide)]
  case laload =>
    refine q_aLda_ok (ok := fun ty => Nat.beq ty 3) (zf := z_aXld 3 z_isL) (zok := z_isL) (t1 := 3) (t2 := 3) st rfl (fun ty h => ?_) (fun h => by cases h) (fun pc cls i k t X c hk => rfl)
    have e := q_beq_iff.mp h
    exact ⟨Or.inl e, fun z hz => by
      obtain ⟨x, ex⟩ := hz.2.1 e
      rw [ex]; rfl⟩
  case aaload =>
    refine q_aLda_ok (ok := fun ty => Nat.beq ty 4) (zf := z_aXld 4 z_isA) (zok := z_isA) (t1 := 4) (t2 := 4) st rfl (fun ty h => ?_) (fun h => by cases h) (fun pc cls i k t X c hk => rfl)
    have e := q_beq_iff.mp h
    exact ⟨Or.inl e, fun z hz => by
      obtain ⟨x, ex⟩ := hz.2.2 e
      rw [ex]; rfl⟩
  case iastore => exact q_aSto_ok st rfl q_si_ok
  case bastore => exact q_aSto_ok st rfl q_sb_ok
  case lastore => exact q_aSto_ok st rfl q_sl_ok
  case aastore => exact q_aSto_ok st rfl q_sa_ok
  case goto off => exact q_aGoto_ok st rfl
  case ifCond r off => exact q_aIf_ok st rfl
  case if_icmp r off => exact q_aCmp_ok st rfl
  case ifnull off => exact q_aNul_ok st rfl
  case ifnonnull off => exact q_aNul_ok st rfl
  case tableswitch dflt lo hi offs =>
    refine q_aok_of fun K pc' ls sk w v cls cst X h hK hn hv hl hst hw hpc => ?_
    obtain ⟨h1, h⟩ := q_and_iff.mp (show q_and (q_le (Int.negSucc 999) lo) (q_and (q_le lo (Int.ofNat 1000)) (q_aTab (z_tgt pc dflt) lo (offs.toList.map (z_tgt pc)) K (pc', ls, sk, w))) = true from h)
    obtain ⟨h2, h⟩ := q_and_iff.mp h
    exact q_aTab_ok st rfl ⟨q_le_ok.mp h1, q_le_ok.mp h2⟩ h hK hn hv hl hst hw hpc
  case lookupswitch dflt ps => exact q_aLku_ok st rfl
  case ireturn =>
    cases hr : zm_r M with
    | none =>
      have e1 : q_act Ms Cd C M (pc, .ireturn, len, a1, a2) = q_no := by
        show (match zm_r M with | some ty => _ | none => q_no) = q_no
        rw [hr]
      rw [e1]
      exact q_no_ok
    | some ty =>
      have e1 : q_act Ms Cd C M (pc, .ireturn, len, a1, a2) = z_if (q_or (Nat.beq (q_fty ty) 1) (q_or (Nat.beq (q_fty ty) 4) (Nat.beq (q_fty ty) 5))) (q_aRet C (q_fty ty)) q_no := by
        show (match zm_r M with | some ty => z_if (q_or (Nat.beq (q_fty ty) 1) (q_or (Nat.beq (q_fty ty) 4) (Nat.beq (q_fty ty) 5))) (q_aRet C (q_fty ty)) q_no | none => q_no) = _
        rw [hr]
      rw [e1]
      cases hty : q_or (Nat.beq (q_fty ty) 1) (q_or (Nat.beq (q_fty ty) 4) (Nat.beq (q_fty ty) 5)) with
      | false => exact q_no_ok
      | true =>
        refine q_aRet_ok (zok := fun v => z_if (z_isI v) (z_fit ty v) false) rt ?_ (fun {X w v a z} hw ha hf => ?_) hm h0
        · show (match zm_r M with | some ty => z_aRet (fun v => z_if (z_isI v) (z_fit ty v) false) (zm_mc M) (zm_ms M) | none => fun _ _ => none) = _
          rw [hr]
        · have hz := q_fok1_ok hw ha hf
          have hi : z_isI z = true := by
            rcases q_or_iff.mp hty with h1 | h1
            · have hf : q_fok1 (q_fty ty) w.2.1 w.2.2.1 a = true := hf
              rw [q_beq_iff.mp h1] at hf
              exact q_kInt ha (show q_tI a = true from hf)
            · rcases q_or_iff.mp h1 with h1 | h1
              · rw [q_beq_iff.mp h1] at hf
                exact q_kInt ha (q_and_iff.mp (show q_and (q_tI a) (q_win w.2.1 w.2.2.1 a.2.2.1 (Int.ofNat 0) (Int.ofNat 1)) = true from hf)).1
              · rw [q_beq_iff.mp h1] at hf
                exact q_kInt ha (q_and_iff.mp (show q_and (q_tI a) (q_win w.2.1 w.2.2.1 a.2.2.1 (Int.ofNat 0) (Int.ofNat 127)) = true from hf)).1
          show z_if (z_isI z) (z_fit ty z) false = true
          rw [hi, hz]
  case lreturn =>
    by_cases hr : zm_r M = some .long
    · have e1 : q_act Ms Cd C M (pc, .lreturn, len, a1, a2) = q_aRet C 2 := by
        show (match zm_r M with | some .long => q_aRet C 2 | _ => q_no) = _
        rw [hr]
      rw [e1]
      refine q_aRet_ok (zok := z_isL) rt ?_ (fun {X w v a z} hw ha hf => q_kLg ha (show q_tL a = true from hf)) hm h0
      show (match zm_r M with | some .long => z_aRet z_isL (zm_mc M) (zm_ms M) | _ => fun _ _ => none) = _
      rw [hr]
    · have e1 : q_act Ms Cd C M (pc, .lreturn, len, a1, a2) = q_no := by
        show (match zm_r M with | some .long => q_aRet C 2 | _ => q_no) = _
        split
        · rename_i h; exact absurd h hr
        · rfl
      rw [e1]
      exact q_no_ok
  case areturn =>
    by_cases hr : ∃ c, zm_r M = some (.object c)
    · obtain ⟨c, hr⟩ := hr
      have e1 : q_act Ms Cd C M (pc, .areturn, len, a1, a2) = q_aRet C 3 := by
        show (match zm_r M with | some (.object _) => q_aRet C 3 | _ => q_no) = _
        rw [hr]
      rw [e1]
      refine q_aRet_ok (zok := z_isR) rt ?_ (fun {X w v a z} hw ha hf => q_kR ha (show q_tR a = true from hf)) hm h0
      show (match zm_r M with | some (.object _) => z_aRet z_isR (zm_mc M) (zm_ms M) | _ => fun _ _ => none) = _
      rw [hr]
    · have e1 : q_act Ms Cd C M (pc, .areturn, len, a1, a2) = q_no := by
        show (match zm_r M with | some (.object _) => q_aRet C 3 | _ => q_no) = _
        split
        · rename_i h; exact absurd ⟨_, h⟩ hr
        · rfl
      rw [e1]
      exact q_no_ok
  case return_ =>
    cases hr : zm_r M with
    | none =>
      have e1 : q_act Ms Cd C M (pc, .return_, len, a1, a2) = q_aRetV C := by
        show (match zm_r M with | none => q_aRetV C | _ => q_no) = _
        rw [hr]
      rw [e1]
      refine q_aRetV_ok rt ?_ hm h0
      show (match zm_r M with | none => z_aRetV (zm_mc M) (zm_ms M) | _ => fun _ _ => none) = _
      rw [hr]
    | some ty =>
      have e1 : q_act Ms Cd C M (pc, .return_, len, a1, a2) = q_no := by
        show (match zm_r M with | none => q_aRetV C | _ => q_no) = _
        rw [hr]
      rw [e1]
      exact q_no_ok
  case invokevirtual idx => exact q_inv_ok hb hM he rfl hd hD hc
  case invokespecial idx => exact q_inv_ok hb hM he rfl hd hD hc
  case invokestatic idx => exact q_inv_ok hb hM he rfl hd hD hc
  all_goals exact q_no_ok
end
