/-! new cells, copies, jumps -/
section
variable {p : Program} {l : Launch} {e0 : Env} {R : Room} {s : State} {m : MethodId} {args : Array Value} {below : List Frame} {meth : Method} {c : Code} {Q : State → Prop} {E : zG} {J : (Nat → va_E) → Prop} {M : zM} {Ms : List zM} {PR : zR → Prop} {PC : Nat × List zV × List zV → Prop} {β : zB} {F : zF} {o : zO}
theorem zs_push {G : Nat → va_E} {H H1 : Heap} {locs locs1 : List Loc} {ls : Array Slot} {nL pc q sl : Nat} {st : List zV} {c' : zK} {e : va_E} (he : e = zce (zg_r E) (zg_a E) (zg_f E) (zg_A E) c') (hp : zPt E s nL G F H locs ls) (h256 : F.2.2.2.1.1 < 256)
    (hP1 : va_P (zg_D E) vwCl (zwd E G F.2.2.2.1 ++ [(q, e)]) H1) (hD1 : va_D (zgA E) (zwd E G F.2.2.2.1 ++ [(q, e)])) (hS1 : va_S (zgA E) H H1 locs1) (hup : H1.size ≤ s.heap.size + (F.2.2.2.2.1 + 1)) :
    q = zg_n E + F.2.2.2.1.1 ∧ zPt E s nL G (pc, F.2.1, st, z_hp F.2.2.2.1 (some c'), Nat.succ F.2.2.2.2.1, sl) H1 locs1 ls := by
  obtain ⟨⟨hP, hsz, -, hbel⟩, hlo, hse, hlv⟩ := hp
  have hl : (zwd E G F.2.2.2.1).length = F.2.2.2.1.1 := by simp [zw]
  have hat : (zwd E G F.2.2.2.1 ++ [(q, e)])[F.2.2.2.1.1]? = some (q, e) := by
    rw [List.getElem?_append_right (by rw [hl]; exact Nat.le_refl _), hl]; simp
  have hqn : zg_n E ≤ q := hD1.2 _ _ hat
  have hqlt : q < H1.size := (hP1 _ _ hat).lt
  have hq : q = zg_n E + F.2.2.2.1.1 := by
    rcases Nat.lt_or_ge q (zg_n E + F.2.2.2.1.1) with h | h
    · exfalso
      have hk : q - zg_n E < F.2.2.2.1.1 := by omega
      have h1 : (zwd E G F.2.2.2.1 ++ [(q, e)])[q - zg_n E]? = some (zg_n E + (q - zg_n E), zcg (zg_r E) (zg_a E) (zg_f E) (zg_A E) G (q - zg_n E) (z_hg F.2.2.2.1 (q - zg_n E))) := by
        rw [List.getElem?_append_left (by rw [hl]; exact hk)]
        exact zw_at hk
      have := hD1.1 _ _ _ _ h1 hat (by show zg_n E + (q - zg_n E) = q; omega)
      omega
    · omega
  refine ⟨hq, ⟨?_, ?_, ?_, fun j hj => ?_⟩, hS1.2.2, ?_, hlv⟩
  · show va_P (zg_D E) vwCl (zw _ _ _ _ _ G (z_hp F.2.2.2.1 (some c'))) H1
    rw [zw_push h256, ← hq, ← he]
    exact hP1
  · show H1.size = zg_n E + (F.2.2.2.1.1 + 1)
    omega
  · exact h256
  · rw [hS1.2.1 j (by rw [hsz]; omega) (Nat.not_le.mpr hj)]
    exact hbel j hj
  · show H1.size = s.heap.size + (F.2.2.2.2.1 + 1)
    omega
theorem z_mk_some {ci ty n len mc ms : Nat} {cc : zC} {t : List zV} (h : z_mk ci ty n cc len mc ms t β F = some o) : F.2.2.2.1.1 < 256 ∧ F.2.2.2.2.1 + 1 ≤ mc ∧ F.2.2.2.2.2 + len ≤ ms ∧ o = .inl (β, (Nat.add F.1 n, F.2.1, .inl (.ref F.2.2.2.1.1) :: t, z_hp F.2.2.2.1 cc, Nat.succ F.2.2.2.2.1, Nat.add F.2.2.2.2.2 len)) := by
  obtain ⟨h1, h⟩ := z_if_some h
  obtain ⟨h2, h⟩ := z_if_some h
  obtain ⟨h3, h⟩ := z_if_some h
  exact ⟨z_blt h1, z_ble h2, z_ble h3, (Option.some.inj h).symm⟩
theorem zs_New {ci idx : Nat} (hC : zCtx p R s m args c E M) (hcl : zClsOk) (hl : vwCl[ci]? = some (z_cw ci) ∧ Cond.classLink (zm_y M).cls idx (z_cw ci).1 ∈ z_WS) (hdg : decode (zm_b M) F.1 = .ok (.new idx, 3)) (h : z_aNew ci (zm_mc M) (zm_ms M) β F = some o) (hn : zNx (zWp p l e0 R s m args below meth c Q E J (zm_L M)) PR PC o) : zWp p l e0 R s m args below meth c Q E J (zm_L M) β F := by
  obtain ⟨hx, hb, hml, hown, hts, hE, hFx, -, -, hmc, hms, -⟩ := hC
  obtain ⟨h1, h2, h3, rfl⟩ := z_mk_some h
  intro hok G hJ H locs ls hp
  obtain ⟨hP, hsz, h256, hbel⟩ := hp.1
  obtain ⟨k1, k2, k3, k4, k5, k6⟩ := hcl ci hl.1
  refine va_new (C := (z_cw ci).1) (T := (z_cw ci).2.1) (N := (z_cw ci).2.2) (ci := ci) (fs := (z_new ci).map (zv E)) hx hb hts k1 (z_ty ci) k2 hown (hts _ hl.2) (hts _ k4) (hts _ k5) hE.1 hP zw_D (zs_S0 hp) (fun q hq => ?_) hl.1 (fun j hj => ?_) (Nat.le_trans h2 hmc) (by rw [← k6]; exact Nat.le_trans h3 hms) hdg fun q H1 hP1 hD1 hS1 => ?_
  · show zg_n E ≤ q
    omega
  · have hj2 : j < z_N ci := by rw [k6]; exact hj
    show defaultValue (z_ty ci j) = ((z_new ci).map (zv E)).getD j .null
    have e : ((z_new ci).map (zv E))[j]? = some (defaultValue (z_ty ci j)) := by
      unfold z_new
      simp [hj2]
      cases z_ty ci j <;> rfl
    rw [List.getD_eq_getElem?_getD, e]
    rfl
  · refine z_sized fun hup => ?_
    obtain ⟨hq, hp2⟩ := zs_push (c' := .inr (ci, z_new ci)) (pc := Nat.add F.1 3) (st := .inl (.ref F.2.2.2.1.1) :: F.2.2.1) (sl := Nat.add F.2.2.2.2.2 (z_N ci)) rfl hp h1 hP1 hD1 hS1 hup
    have hw := hn hok G hJ H1 locs ls hp2
    rw [hq, ← hFx.2.2.1 _ h1, ← k6]
    exact hw
theorem zs_Mka {t : ArrayType} (hC : zCtx p R s m args c E M) (hl : Cond.arrayClass (newarray.typeOf t) ∈ z_WS ∧ (t = .int ∨ t = .byte ∨ t = .boolean ∨ t = .long)) (hdg : decode (zm_b M) F.1 = .ok (.newarray t, 2)) (h : z_aMka 2 (z_at t) (zm_mc M) (zm_ms M) β F = some o) (hn : zNx (zWp p l e0 R s m args below meth c Q E J (zm_L M)) PR PC o) : zWp p l e0 R s m args below meth c Q E J (zm_L M) β F := by
  obtain ⟨hx, hb, hml, hown, hts, hE, hFx, -, -, hmc, hms, -⟩ := hC
  obtain ⟨v, t', hs, h⟩ := z_lc_some h
  obtain ⟨i, hi, h⟩ := z_ob_some h
  rw [z_cI_some hi] at hs
  obtain ⟨h0, h⟩ := z_if_some h
  obtain ⟨h1, h2, h3, rfl⟩ := z_mk_some h
  have h0 := z_ble h0
  obtain ⟨s1, s2⟩ := z_small (i := i) (by omega)
  intro hok G hJ H locs ls hp
  obtain ⟨hP, hsz, h256, hbel⟩ := hp.1
  rw [hs]
  have hT : (z_tys (zg_A E))[z_at t]? = some (zg_A E (z_at t), newarray.typeOf t) ∧ z_at t ≠ 4 ∧ componentBytes (newarray.typeOf t) ≤ 8 ∧ ∀ cA : ClassId, vp_cell cA (i.toBitVec.toNat, zcf (zg_r E) (zg_a E) (z_at t) i.toBitVec.toNat []) = arrV cA i.toBitVec.toNat (fun _ => defaultValue (newarray.typeOf t)) := by
    rcases hl.2 with rfl | rfl | rfl | rfl
    · refine ⟨rfl, by decide, by decide, fun cA => ?_⟩
      show arrV cA _ (fun j => .int (if j < _ then (0 : Int32) else 0)) = _
      simp; rfl
    · refine ⟨rfl, by decide, by decide, fun cA => ?_⟩
      show arrV cA _ (fun j => .int (if j < _ then (0 : Int32) else 0)) = _
      simp; rfl
    · refine ⟨rfl, by decide, by decide, fun cA => ?_⟩
      show arrV cA _ (fun j => .int (if j < _ then (0 : Int32) else 0)) = _
      simp; rfl
    · refine ⟨rfl, by decide, by decide, fun cA => ?_⟩
      show arrV cA _ (fun j => .long (if j < _ then (0 : Int64) else 0)) = _
      simp; rfl
  obtain ⟨T1, T2, T3, T4⟩ := hT
  refine va_newa (atype := t) (ty := newarray.typeOf t) (a0 := (i.toBitVec.toNat, zcf (zg_r E) (zg_a E) (z_at t) i.toBitVec.toNat [])) hx hb (hts _ hl.1) rfl hE.1 hP zw_D (zs_S0 hp) (fun q hq => ?_) T4 s1 s2 ?_ (Nat.le_trans h2 hmc) (Nat.le_trans h3 hms) hdg fun q cA H1 hK1 hP1 hD1 hS1 => ?_
  · show zg_n E ≤ q
    omega
  · calc i.toBitVec.toNat * componentBytes (newarray.typeOf t) ≤ 60000000 * 8 := Nat.mul_le_mul h0 T3
      _ ≤ 536870912 := by decide
  · have eA : cA = zg_A E (z_at t) := by
      have r1 := (hK1.2 5 (cA, newarray.typeOf t) (by simp [z_tys])).2
      have r2 := (hE.1.2 _ _ T1).2
      rcases hl.2 with rfl | rfl | rfl | rfl <;> exact Option.some.inj (Eq.trans (Eq.symm r1) r2)
    rw [eA] at hP1 hD1
    refine z_sized fun hup => ?_
    obtain ⟨hq, hp2⟩ := zs_push (c' := .inl (z_at t, i.toBitVec.toNat, [])) (pc := Nat.add F.1 2) (st := .inl (.ref F.2.2.2.1.1) :: t') (sl := Nat.add F.2.2.2.2.2 i.toBitVec.toNat) rfl hp h1 hP1 hD1 hS1 hup
    have hw := hn hok G hJ H1 locs ls hp2
    rw [hq, ← hFx.2.2.1 _ h1]
    exact hw
theorem zs_Mkq {idx : Nat} (hC : zCtx p R s m args c E M) (hl : Cond.classLink (zm_y M).cls idx "FarBank$State" ∈ z_WS) (hdg : decode (zm_b M) F.1 = .ok (.anewarray idx, 3)) (h : z_aMka 3 4 (zm_mc M) (zm_ms M) β F = some o) (hn : zNx (zWp p l e0 R s m args below meth c Q E J (zm_L M)) PR PC o) : zWp p l e0 R s m args below meth c Q E J (zm_L M) β F := by
  obtain ⟨hx, hb, hml, hown, hts, hE, hFx, -, -, hmc, hms, -⟩ := hC
  obtain ⟨v, t', hs, h⟩ := z_lc_some h
  obtain ⟨i, hi, h⟩ := z_ob_some h
  rw [z_cI_some hi] at hs
  obtain ⟨h0, h⟩ := z_if_some h
  obtain ⟨h1, h2, h3, rfl⟩ := z_mk_some h
  have h0 := z_ble h0
  obtain ⟨s1, s2⟩ := z_small (i := i) (by omega)
  intro hok G hJ H locs ls hp
  obtain ⟨hP, hsz, h256, hbel⟩ := hp.1
  rw [hs]
  refine va_newq (C := "FarBank$State") hx hb hown (hts _ hl) hE.2.2.1 hE.1 hP zw_D (zs_S0 hp) (fun q hq => ?_) s1 s2 (by omega) (Nat.le_trans h2 hmc) (Nat.le_trans h3 hms) hdg fun q cA H1 hK1 hP1 hD1 hS1 => ?_
  · show zg_n E ≤ q
    omega
  · have eA : cA = zg_A E 4 := by
      obtain ⟨_, _, _, _, _, r1⟩ := (hK1.2 5 (cA, .object "FarBank$State") (by simp [z_tys])).2
      obtain ⟨_, _, _, _, _, r2⟩ := (hE.1.2 4 (zg_A E 4, .object "FarBank$State") rfl).2
      exact Option.some.inj (r1.symm.trans r2)
    rw [eA] at hP1 hD1
    refine z_sized fun hup => ?_
    obtain ⟨hq, hp2⟩ := zs_push (c' := .inl (4, i.toBitVec.toNat, [])) (pc := Nat.add F.1 3) (st := .inl (.ref F.2.2.2.1.1) :: t') (sl := Nat.add F.2.2.2.2.2 i.toBitVec.toNat) (by
      show _ = Sum.inl (_, _, Sum.inr (Sum.inr (Sum.inr (Sum.inr fun j => if j < _ then zcR _ (z_el 4 [] j) else none))))
      congr 5
      have e : (fun j : Nat => if j < i.toBitVec.toNat then zcR (zg_a E) (z_el 4 [] j) else none) = fun _ => none := by
        funext j
        split <;> rfl
      rw [e]) hp h1 hP1 hD1 hS1 hup
    have hw := hn hok G hJ H1 locs ls hp2
    rw [hq, ← hFx.2.2.1 _ h1]
    exact hw
theorem z_sum_c (hf : (zg_f E).category = 1) : ∀ (st : List zV), ((st.map (zv E)).map fun v => v.category).sum = z_sum st
  | [] => rfl
  | v :: t => by
    show (zv E v).category + ((t.map (zv E)).map fun v => v.category).sum = z_cat v + z_sum t
    rw [z_sum_c hf t, show (zv E v).category = z_cat v from z_cat_c hf v]
theorem zs_Cpy {idx : Nat} (hC : zCtx p R s m args c E M) (hcm : zComOk) (hl : Cond.methodLink (zm_y M).cls idx arraycopyName ∈ z_WS) (hdg : decode (zm_b M) F.1 = .ok (.invokestatic idx, 3)) (h : z_aCpy β F = some o) (hn : zNx (zWp p l e0 R s m args below meth c Q E J (zm_L M)) PR PC o) : zWp p l e0 R s m args below meth c Q E J (zm_L M) β F := by
  obtain ⟨hx, hb, hml, hown, hts, hE, hFx, -, -, hmc, hms, hfr, hlc⟩ := hC
  obtain ⟨vn, s1, hs, h⟩ := z_lc_some h
  obtain ⟨vd, s2, hs1, h⟩ := z_lc_some h
  obtain ⟨vk, s3, hs2, h⟩ := z_lc_some h
  obtain ⟨vs, s4, hs3, h⟩ := z_lc_some h
  obtain ⟨vj, t, hs4, h⟩ := z_lc_some h
  rw [hs1, hs2, hs3, hs4] at hs
  obtain ⟨n, en, h⟩ := z_ob_some h
  obtain ⟨dp, ed, h⟩ := z_ob_some h
  obtain ⟨k, ek, h⟩ := z_ob_some h
  obtain ⟨sp, es, h⟩ := z_ob_some h
  obtain ⟨j, ej, h⟩ := z_ob_some h
  rw [z_cI_some en, z_cI_some ed, z_cR_some ek, z_cI_some es, z_cR_some ej] at hs
  obtain ⟨ty, len, u, hlt, hg, h⟩ := z_arr_some h
  obtain ⟨ty', len', u', hlt', hg', h⟩ := z_arr_some h
  obtain ⟨q1, h⟩ := z_if_some h
  obtain ⟨q2, h⟩ := z_if_some h
  obtain ⟨q3, h⟩ := z_if_some h
  obtain ⟨q4, h⟩ := z_if_some h
  obtain ⟨q5, h⟩ := z_if_some h
  obtain ⟨q6, h⟩ := z_if_some h
  obtain ⟨q7, h⟩ := z_if_some h
  obtain ⟨q8, h⟩ := z_if_some h
  cases h
  rw [z_beq q1] at hg
  rw [z_beq q2, ← z_beq q3] at hg'
  have q4 := z_beq q4
  have q5 := z_blt q5
  have q8 := z_ble q8
  have esp := z_to0 q6
  have edp := z_to0 q7
  obtain ⟨n1, n2⟩ := z_small (i := n) (by omega)
  intro hok G hJ H locs ls hp
  obtain ⟨hP, hsz, h256, hbel⟩ := hp.1
  rw [hs, esp, edp]
  show W p l e0 R s m args below meth c H locs F.2.2.2.2.1 F.2.2.2.2.2 Q (F0 m F.1 ls (.int n :: .int 0 :: .ref (zg_a E k) :: .int 0 :: .ref (zg_a E j) :: t.map (zv E)))
  rw [hFx.2.2.1 k (by omega), hFx.2.2.1 j (by omega)]
  have hz : (0 : Int32).toNatClampNeg = 0 := rfl
  have hml2 : c.maxLocals = ls.size := by rw [hml]; exact hp.2.2.2.1.symm
  obtain ⟨-, -, c3, c4, c5, -⟩ := hcm
  refine va_copyi (ty := .int) (n0 := len) (n1 := len) (f := fun j => if j < len then z_I (zg_r E) (z_el 0 u j) else 0) (g := fun j => if j < len then z_I (zg_r E) (z_el 0 u' j) else 0) hx hb hml2 hown (hts _ hl) (hts _ c3) (hts _ c4) (hts _ c5) hE.1 hP zw_D (zs_S0 hp) j k 0 0 (zw_get hlt hg) (zw_get hlt' hg') rfl rfl rfl (by decide) (by decide) n1 (by rw [hz, n2]; omega) (by rw [hz, n2]; omega) (fun _ _ => rfl) hfr ?_ hdg fun H1 locs1 hP1 _ hS1 => ?_
  · rw [z_sum_c hFx.2.2.2]
    have e : nativeFrameWords "java/lang/System" "arraycopy" 5 ≤ 40 := by decide
    omega
  · refine z_sized fun hup => ?_
    refine hn hok G hJ H1 locs1 ls (zs_put (c' := .inl (0, len, u)) hp hlt' ?_ hS1 hup)
    have e : va_cpy (fun j => if j < len then z_I (zg_r E) (z_el 0 u j) else 0) (fun j => if j < len then z_I (zg_r E) (z_el 0 u' j) else 0) (0 : Int32).toNatClampNeg (0 : Int32).toNatClampNeg n.toNatClampNeg = fun j => if j < len then z_I (zg_r E) (z_el 0 u j) else 0 := by
      funext q
      unfold va_cpy
      rw [hz, n2, q4]
      by_cases e : q < len
      · rw [if_pos ⟨Nat.zero_le _, by omega⟩]
        simp
      · rw [if_neg (by omega)]
        show (if q < len then z_I (zg_r E) (z_el 0 u' q) else 0) = (if q < len then z_I (zg_r E) (z_el 0 u q) else 0)
        rw [if_neg e, if_neg e]
    rw [e] at hP1
    exact hP1
end
