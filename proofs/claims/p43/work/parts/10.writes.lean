/-! the actions that write and make cells -/
theorem z_byte : ∀ q, q < 128 → narrow .byte (.int (nI q)) = .int (nI q) ∧ fits .byte (.int (nI q)) = true := by decide +kernel
theorem z_fit_ok {E : zG} {ty : FieldType} {v : zV} (h : z_fit ty v = true) : narrow ty (zv E v) = zv E v ∧ fits ty (zv E v) = true := by
  have hI : ∀ (b : Int32 → Bool), Option.rec (motive := fun _ => Bool) false b (z_cI v) = true → ∃ x, v = .inl (.int x) ∧ b x = true := by
    intro b hb
    cases e : z_cI v with
    | none => rw [e] at hb; cases hb
    | some x => rw [e] at hb; exact ⟨x, z_cI_some e, hb⟩
  cases ty with
  | int =>
    have h : z_isI v = true := h
    rw [show zv E v = _ from z_isI_c h]
    exact ⟨rfl, rfl⟩
  | long =>
    obtain ⟨k, rfl⟩ := z_isL_some h
    exact ⟨rfl, rfl⟩
  | object C => rcases z_isA_some h with rfl | ⟨k, rfl⟩ <;> exact ⟨rfl, rfl⟩
  | array t => rcases z_isA_some h with rfl | ⟨k, rfl⟩ <;> exact ⟨rfl, rfl⟩
  | boolean =>
    obtain ⟨x, rfl, hx⟩ := hI _ h
    have hx := z_ble hx
    have hx2 := z_ofN x
    show narrow .boolean (.int x) = .int x ∧ fits .boolean (.int x) = true
    rw [← hx2]
    rcases (show x.toBitVec.toNat = 0 ∨ x.toBitVec.toNat = 1 by omega) with e | e <;> rw [e] <;> exact ⟨rfl, rfl⟩
  | char =>
    obtain ⟨x, rfl, hx⟩ := hI _ h
    have hx := z_ble hx
    have hx2 : nI x.toBitVec.toNat = x := z_ofN x
    show narrow .char (.int x) = .int x ∧ fits .char (.int x) = true
    rw [← hx2]
    exact pk_charN (by omega)
  | byte =>
    obtain ⟨x, rfl, hx⟩ := hI _ h
    have hx := z_ble hx
    have hx2 : nI x.toBitVec.toNat = x := z_ofN x
    show narrow .byte (.int x) = .int x ∧ fits .byte (.int x) = true
    rw [← hx2]
    exact z_byte _ (by omega)
  | _ => cases h
section
variable {p : Program} {l : Launch} {e0 : Env} {R : Room} {s : State} {m : MethodId} {args : Array Value} {below : List Frame} {meth : Method} {c : Code} {Q : State → Prop} {E : zG} {J : (Nat → va_E) → Prop} {M : zM} {Ms : List zM} {PR : zR → Prop} {PC : Nat × List zV × List zV → Prop} {β : zB} {F : zF} {o : zO}
/-- behind a store -/
theorem zs_put {G : Nat → va_E} {H H1 : Heap} {locs locs1 : List Loc} {ls : Array Slot} {nL a pc : Nat} {st : List zV} {c' : zK} (hp : zPt E s nL G F H locs ls) (ha : a < F.2.2.2.1.1)
    (hP1 : va_P (zg_D E) vwCl ((zwd E G F.2.2.2.1).set a (zg_n E + a, zce (zg_r E) (zg_a E) (zg_f E) (zg_A E) c')) H1) (hS1 : va_S (zgA E) H H1 locs1) (hup : H1.size ≤ s.heap.size + F.2.2.2.2.1) : zPt E s nL G (pc, F.2.1, st, z_hs F.2.2.2.1 a (some c'), F.2.2.2.2) H1 locs1 ls := by
  obtain ⟨⟨hP, hsz, h256, hbel⟩, hlo, hse, hlv⟩ := hp
  have h1 : H1.size = H.size := Nat.le_antisymm (by rw [hse]; exact hup) hS1.1
  refine ⟨⟨?_, ?_, h256, fun q hq => ?_⟩, hS1.2.2, ?_, hlv⟩
  · show va_P (zg_D E) vwCl (zw _ _ _ _ _ G (z_hs F.2.2.2.1 a (some c'))) H1
    rw [zw_set ha h256]
    exact hP1
  · rw [h1]; exact hsz
  · rw [hS1.2.1 q (by rw [hsz]; omega) (Nat.not_le.mpr hq)]
    exact hbel q hq
  · rw [h1]; exact hse
theorem zs_S0 {G : Nat → va_E} {H : Heap} {locs : List Loc} {ls : Array Slot} {nL : Nat} (hp : zPt E s nL G F H locs ls) : va_S (zgA E) H H locs := ⟨Nat.le_refl _, fun _ _ _ => rfl, hp.2.1⟩
theorem zs_Put {ci k idx : Nat} (hC : zCtx p R s m args c E M) (hcl : zClsOk) (hmn : meth.name = (zm_y M).name)
    (hl : vwCl[ci]? = some (z_cw ci) ∧ k < (z_cw ci).2.2 ∧ Cond.fieldLink (zm_y M).cls idx ((z_cw ci).2.1 k).1 ((z_cw ci).2.1 k).2.1 ((z_cw ci).2.1 k).2.2.1 ∈ z_WS ∧ (((z_cw ci).2.1 k).2.2.2 = false ∨ ((z_cw ci).2.1 k).2.2.2 = true ∧ (zm_y M).name = "<init>" ∧ ((z_cw ci).2.1 k).1 = (zm_y M).cls))
    (hdg : decode (zm_b M) F.1 = .ok (.putfield idx, 3)) (h : z_aPut ci k (z_fit (z_ty ci k)) β F = some o) (hn : zNx (zWp p l e0 R s m args below meth c Q E J (zm_L M)) PR PC o) : zWp p l e0 R s m args below meth c Q E J (zm_L M) β F := by
  obtain ⟨hx, hb, hml, hown, hts, hE, hFx, -⟩ := hC
  obtain ⟨v, s', hs, h⟩ := z_lc_some h
  obtain ⟨o1, t, hs', h⟩ := z_lc_some h
  rw [hs'] at hs
  obtain ⟨a, ha, h⟩ := z_ob_some h
  rw [z_cR_some ha] at hs
  obtain ⟨c1, fs, hlt, hg, h⟩ := z_obj_some h
  obtain ⟨h1, h⟩ := z_if_some h
  obtain ⟨h2, h⟩ := z_if_some h
  obtain ⟨w, hw, h⟩ := z_ob_some h
  rw [z_nth_eq] at hw
  rw [z_beq h1, z_lst_eq] at h
  rw [z_beq h1] at hg
  cases h
  intro hok G hJ H locs ls hp
  obtain ⟨hP, hsz, h256, hbel⟩ := hp.1
  rw [hs]
  show W p l e0 R s m args below meth c H locs F.2.2.2.2.1 F.2.2.2.2.2 Q (F0 m F.1 ls (zv E v :: .ref (zg_a E a) :: t.map (zv E)))
  rw [hFx.2.2.1 a (by omega)]
  obtain ⟨k1, k2, k3, -⟩ := hcl ci hl.1
  obtain ⟨f1, f2⟩ := z_fit_ok (E := E) h2
  have hkl : k < (fs.map (zv E)).length := by rw [List.length_map]; exact (List.getElem?_eq_some_iff.mp hw).1
  have hset : (fs.map (zv E)).set k (zv E v) = (fs.set k v).map (zv E) := List.map_set.symm
  have kk : ∀ (H1 : Heap) (locs1 : List Loc), va_P (zg_D E) vwCl ((zwd E G F.2.2.2.1).set a (zg_n E + a, .inr (ci, (fs.map (zv E)).set k (zv E v)))) H1 → va_D (zgA E) ((zwd E G F.2.2.2.1).set a (zg_n E + a, .inr (ci, (fs.map (zv E)).set k (zv E v)))) → va_S (zgA E) H H1 locs1 → W p l e0 R s m args below meth c H1 locs1 F.2.2.2.2.1 F.2.2.2.2.2 Q (F0 m (F.1 + 3) ls (t.map (zv E))) := by
    intro H1 locs1 hP1 _ hS1
    refine z_sized fun hup => ?_
    rw [hset] at hP1
    exact hn hok G hJ H1 locs1 ls (zs_put (c' := .inr (ci, fs.set k v)) hp hlt hP1 hS1 hup)
  rcases hl.2.2.2 with hf | ⟨hf, hi, hd⟩
  · exact va_put (C := (z_cw ci).1) (T := (z_cw ci).2.1) (N := (z_cw ci).2.2) (ref := ((z_cw ci).2.1 k).1) (index := idx) hx hb hts k1 (z_ty ci) k2 k3 hown hE.1 hP zw_D (zs_S0 hp) a (zw_get hlt hg) hl.1 k hl.2.1 (hts _ hl.2.2.1) (fun x h => h) hf (k2 k hl.2.1) f1 f2 hkl hdg kk
  · exact va_putF (C := (z_cw ci).1) (T := (z_cw ci).2.1) (N := (z_cw ci).2.2) (ref := ((z_cw ci).2.1 k).1) (index := idx) hx hb hts k1 (z_ty ci) k2 k3 hown hE.1 hP zw_D (zs_S0 hp) a (zw_get hlt hg) hl.1 k hl.2.1 (hts _ hl.2.2.1) (fun x h => h) hf (hmn.trans hi) hd (k2 k hl.2.1) f1 f2 hkl hdg kk
theorem z_sto_some {g : zH → Nat → zV → Option zV} {v : zV} {i : Int32} {a : Nat} {t : List zV} (h : z_sto g v i a t β F = some o) : ∃ ty len u w, a < F.2.2.2.1.1 ∧ z_hg F.2.2.2.1 a = some (.inl (ty, len, u)) ∧ z_in i len = true ∧ g F.2.2.2.1 ty v = some w ∧ z_goH β F 1 t (z_hs F.2.2.2.1 a (some (.inl (ty, len, z_ins u i.toBitVec.toNat w)))) = some o := by
  obtain ⟨ty, len, u, hlt, hg, h⟩ := z_arr_some h
  obtain ⟨h1, h⟩ := z_if_some h
  obtain ⟨w, hw, h⟩ := z_ob_some h
  exact ⟨ty, len, u, w, hlt, hg, h1, hw, h⟩
theorem zcf_ins {ρ : Nat → Int32} {ad : Nat → Nat} {ty len i : Nat} {u : List (Nat × zV)} {w : zV} (h3 : ty ≠ 3) (h4 : ty ≠ 4) (hi : i < len) : zcf ρ ad ty len (z_ins u i w) = .inl (upd (fun j => if j < len then z_I ρ (z_el ty u j) else 0) i (z_I ρ w)) := by
  rw [zcf_i h3 h4]
  congr 1
  funext j
  unfold upd
  rw [z_el_ins]
  by_cases e : j = i
  · rw [if_pos e, if_pos e, if_pos (by omega)]
  · rw [if_neg e, if_neg e]
/-- a store of an int, a byte, a boolean -/
theorem zs_StoI {g : zH → Nat → zV → Option zV} {gi : Nat → Int32 → Int32} (hC : zCtx p R s m args c E M) (hgo : ∀ H ty v w, g H ty v = some w → ty ≠ 3 ∧ ty ≠ 4 ∧ z_isI v = true ∧ z_I (zg_r E) w = gi ty (z_I (zg_r E) v))
    (hr : ∀ (ws : va_W) (ty len : Nat) (f : Nat → Int32) (i x : Int32) k H locs ls rest a, (∃ H v w, g H ty v = some w) → va_P (zg_D E) vwCl ws H → va_K (zg_D E) vwCl (z_tys (zg_A E)) s → va_D (zgA E) ws → va_S (zgA E) H H locs → ws[k]? = some (a, .inl (zg_A E ty, len, .inl f)) → vp_in i len → (∀ (H1 : Heap) (locs1 : List Loc), va_P (zg_D E) vwCl (ws.set k (a, .inl (zg_A E ty, len, .inl (upd f i.toNatClampNeg (gi ty x))))) H1 → va_S (zgA E) H H1 locs1 → W p l e0 R s m args below meth c H1 locs1 F.2.2.2.2.1 F.2.2.2.2.2 Q (F0 m (F.1 + 1) ls rest)) → W p l e0 R s m args below meth c H locs F.2.2.2.2.1 F.2.2.2.2.2 Q (F0 m F.1 ls (.int x :: .int i :: .ref a :: rest)))
    (h : z_aSto g β F = some o) (hn : zNx (zWp p l e0 R s m args below meth c Q E J (zm_L M)) PR PC o) : zWp p l e0 R s m args below meth c Q E J (zm_L M) β F := by
  obtain ⟨hx, hb, hml, hown, hts, hE, hFx, -⟩ := hC
  obtain ⟨v, s', hs, h⟩ := z_lc_some h
  obtain ⟨j, r, hs', h⟩ := z_lc_some h
  obtain ⟨o1, t, hr', h⟩ := z_lc_some h
  rw [hs', hr'] at hs
  refine zs_want h hn fun h => ?_
  obtain ⟨i, hi, h⟩ := z_ob_some h
  obtain ⟨a, ha, h⟩ := z_ob_some h
  rw [z_cR_some ha] at hs
  obtain ⟨ty, len, u, w, hlt, hg, hin, hw, h⟩ := z_sto_some h
  cases h
  intro hok G hJ H locs ls hp
  obtain ⟨hP, hsz, h256, hbel⟩ := hp.1
  rw [hs]
  obtain ⟨t3, t4, iv, ew⟩ := hgo _ _ _ _ hw
  obtain ⟨a1, a2, a3⟩ := z_in_ok hin
  show W p l e0 R s m args below meth c H locs F.2.2.2.2.1 F.2.2.2.2.2 Q (F0 m F.1 ls (zv E v :: zv E j :: .ref (zg_a E a) :: t.map (zv E)))
  rw [hFx.2.2.1 a (by omega), show zv E v = _ from z_isI_c iv, show zv E j = .int i from (z_rs_ok (v := j) hok).symm.trans (by rw [z_cI_some hi]; rfl)]
  refine hr (zwd E G F.2.2.2.1) ty len (fun j => if j < len then z_I (zg_r E) (z_el ty u j) else 0) i _ a H locs ls _ _ ⟨_, _, _, hw⟩ hP hE.1 zw_D (zs_S0 hp) ?_ a1 ?_
  · rw [zw_get hlt hg]
    show some (_, Sum.inl (_, _, zcf _ _ _ _ _)) = _
    rw [zcf_i t3 t4]
  · intro H1 locs1 hP1 hS1
    refine z_sized fun hup => ?_
    refine hn hok G hJ H1 locs1 ls (zs_put (c' := .inl (ty, len, z_ins u i.toBitVec.toNat w)) hp hlt ?_ hS1 hup)
    show va_P _ _ (List.set _ a (_, Sum.inl (_, _, zcf _ _ ty len (z_ins u i.toBitVec.toNat w)))) H1
    rw [zcf_ins t3 t4 a3, ew, ← a2]
    exact hP1
theorem zs_Ist (hC : zCtx p R s m args c E M) (hdg : decode (zm_b M) F.1 = .ok (.iastore, 1)) (h : z_aSto z_si β F = some o) (hn : zNx (zWp p l e0 R s m args below meth c Q E J (zm_L M)) PR PC o) : zWp p l e0 R s m args below meth c Q E J (zm_L M) β F := by
  have hC0 := hC
  obtain ⟨hx, hb, -⟩ := hC
  refine zs_StoI (gi := fun _ x => x) hC0 (fun H ty v w h => ?_) (fun ws ty len f i x k H locs ls rest a hw hP hK hD hS ha hin kk => ?_) h hn
  · obtain ⟨h1, h⟩ := z_if_some h
    obtain ⟨h2, h⟩ := z_if_some h
    cases h
    rw [z_beq h1]
    exact ⟨by decide, by decide, h2, rfl⟩
  · obtain ⟨H', v, w, h⟩ := hw
    obtain ⟨h1, -⟩ := z_if_some h
    have h1 := z_beq h1
    rw [h1] at ha kk
    exact va_iast hx hb hK hP hD hS k 0 ha rfl hin hdg (fun H1 l1 q1 _ q3 => kk H1 l1 q1 q3)
theorem zs_Bst (hC : zCtx p R s m args c E M) (hdg : decode (zm_b M) F.1 = .ok (.bastore, 1)) (h : z_aSto z_sb β F = some o) (hn : zNx (zWp p l e0 R s m args below meth c Q E J (zm_L M)) PR PC o) : zWp p l e0 R s m args below meth c Q E J (zm_L M) β F := by
  have hC0 := hC
  obtain ⟨hx, hb, -⟩ := hC
  have key : ∀ (H : zH) (ty : Nat) (v w : zV), z_sb H ty v = some w → (ty = 1 ∧ z_op1 (vp_nar .byte) v = some w) ∨ (ty = 2 ∧ z_op1 (vp_nar .boolean) v = some w) := by
    intro H ty v w h
    have h : z_if (Nat.beq ty 1) _ _ = some w := h
    cases e : Nat.beq ty 1 with
    | true => rw [e] at h; exact Or.inl ⟨z_beq e, h⟩
    | false =>
      rw [e] at h
      obtain ⟨h2, h⟩ := z_if_some (show z_if (Nat.beq ty 2) _ none = some w from h)
      exact Or.inr ⟨z_beq h2, h⟩
  refine zs_StoI (gi := fun ty x => if ty = 1 then vp_nar .byte x else vp_nar .boolean x) hC0 (fun H ty v w h => ?_) (fun ws ty len f i x k H locs ls rest a hw hP hK hD hS ha hin kk => ?_) h hn
  · rcases key _ _ _ _ h with ⟨rfl, h⟩ | ⟨rfl, h⟩ <;> obtain ⟨q1, -, q3⟩ := z_op1_ok (ρ := zg_r E) h <;> exact ⟨by decide, by decide, q1, q3⟩
  · obtain ⟨H', v, w, h⟩ := hw
    rcases key _ _ _ _ h with ⟨h1, -⟩ | ⟨h1, -⟩
    · rw [h1] at ha kk
      exact va_bast hx hb hK hP hD hS k 1 ha rfl hin hdg (fun H1 l1 q1 _ q3 => kk H1 l1 q1 q3)
    · rw [h1] at ha kk
      exact va_zast hx hb hK hP hD hS k 2 ha rfl hin hdg (fun H1 l1 q1 _ q3 => kk H1 l1 q1 q3)
theorem zs_Lst (hC : zCtx p R s m args c E M) (hdg : decode (zm_b M) F.1 = .ok (.lastore, 1)) (h : z_aSto z_sl β F = some o) (hn : zNx (zWp p l e0 R s m args below meth c Q E J (zm_L M)) PR PC o) : zWp p l e0 R s m args below meth c Q E J (zm_L M) β F := by
  obtain ⟨hx, hb, hml, hown, hts, hE, hFx, -⟩ := hC
  obtain ⟨v, s', hs, h⟩ := z_lc_some h
  obtain ⟨j, r, hs', h⟩ := z_lc_some h
  obtain ⟨o1, t, hr', h⟩ := z_lc_some h
  rw [hs', hr'] at hs
  refine zs_want h hn fun h => ?_
  obtain ⟨i, hi, h⟩ := z_ob_some h
  obtain ⟨a, ha, h⟩ := z_ob_some h
  rw [z_cR_some ha] at hs
  obtain ⟨ty, len, u, w, hlt, hg, hin, hw, h⟩ := z_sto_some h
  cases h
  obtain ⟨e1, hw⟩ := z_if_some hw
  obtain ⟨e2, hw⟩ := z_if_some hw
  cases hw
  obtain ⟨x, ex⟩ := z_isL_some e2
  intro hok G hJ H locs ls hp
  obtain ⟨hP, hsz, h256, hbel⟩ := hp.1
  rw [z_beq e1] at hg
  rw [hs, ex]
  obtain ⟨a1, a2, a3⟩ := z_in_ok hin
  show W p l e0 R s m args below meth c H locs F.2.2.2.2.1 F.2.2.2.2.2 Q (F0 m F.1 ls (.long x :: zv E j :: .ref (zg_a E a) :: t.map (zv E)))
  rw [hFx.2.2.1 a (by omega), show zv E j = .int i from (z_rs_ok (v := j) hok).symm.trans (by rw [z_cI_some hi]; rfl)]
  refine va_last (f := fun j => if j < len then zcL (z_el 3 u j) else 0) hx hb hE.1 hP zw_D (zs_S0 hp) a 3 (zw_get hlt hg) rfl a1 hdg fun H1 locs1 hP1 _ hS1 => ?_
  refine z_sized fun hup => ?_
  refine hn hok G hJ H1 locs1 ls (zs_put (c' := .inl (ty, len, z_ins u i.toBitVec.toNat v)) hp hlt ?_ hS1 hup)
  rw [z_beq e1, ex]
  have e : (fun j => if j < len then zcL (z_el 3 (z_ins u i.toBitVec.toNat (.inl (.long x))) j) else 0) = vp_updL (fun j => if j < len then zcL (z_el 3 u j) else 0) i.toNatClampNeg x := by
    funext j
    unfold vp_updL
    rw [z_el_ins, a2]
    by_cases e : j = i.toBitVec.toNat
    · rw [if_pos e, if_pos e, if_pos (by omega)]; rfl
    · rw [if_neg e, if_neg e]
  show va_P _ _ (List.set _ a (_, Sum.inl (_, len, .inr (.inl fun j => if j < len then zcL (z_el 3 (z_ins u i.toBitVec.toNat (.inl (.long x))) j) else 0)))) H1
  rw [e]
  exact hP1
theorem zs_Ast (hC : zCtx p R s m args c E M) (hdg : decode (zm_b M) F.1 = .ok (.aastore, 1)) (h : z_aSto z_sa β F = some o) (hn : zNx (zWp p l e0 R s m args below meth c Q E J (zm_L M)) PR PC o) : zWp p l e0 R s m args below meth c Q E J (zm_L M) β F := by
  obtain ⟨hx, hb, hml, hown, hts, hE, hFx, -⟩ := hC
  obtain ⟨v, s', hs, h⟩ := z_lc_some h
  obtain ⟨j, r, hs', h⟩ := z_lc_some h
  obtain ⟨o1, t, hr', h⟩ := z_lc_some h
  rw [hs', hr'] at hs
  refine zs_want h hn fun h => ?_
  obtain ⟨i, hi, h⟩ := z_ob_some h
  obtain ⟨a, ha, h⟩ := z_ob_some h
  rw [z_cR_some ha] at hs
  obtain ⟨ty, len, u, w, hlt, hg, hin, hw, h⟩ := z_sto_some h
  cases h
  obtain ⟨e1, hw⟩ := z_if_some hw
  obtain ⟨q, hq, hw⟩ := z_ob_some hw
  obtain ⟨cq, fq, hqlt, hqg, hw⟩ := z_obj_some hw
  obtain ⟨e2, hw⟩ := z_if_some hw
  cases hw
  have ex := z_cR_some hq
  rw [z_beq e2] at hqg
  intro hok G hJ H locs ls hp
  obtain ⟨hP, hsz, h256, hbel⟩ := hp.1
  rw [z_beq e1] at hg
  rw [hs, ex]
  obtain ⟨a1, a2, a3⟩ := z_in_ok hin
  show W p l e0 R s m args below meth c H locs F.2.2.2.2.1 F.2.2.2.2.2 Q (F0 m F.1 ls (.ref (zg_a E q) :: zv E j :: .ref (zg_a E a) :: t.map (zv E)))
  rw [hFx.2.2.1 a (by omega), show zv E j = .int i from (z_rs_ok (v := j) hok).symm.trans (by rw [z_cI_some hi]; rfl)]
  have eq : zg_a E q = zg_n E + q := hFx.2.2.1 q (by omega)
  rw [eq]
  refine va_astq (r := z_cw 9) (f := fun j => if j < len then zcR (zg_a E) (z_el 4 u j) else none) hx hb hE.1 hP zw_D (zs_S0 hp) a 4 q 9 (zw_get hlt hg) rfl (zw_get hqlt hqg) rfl a1 hdg fun H1 locs1 hP1 _ hS1 => ?_
  refine z_sized fun hup => ?_
  refine hn hok G hJ H1 locs1 ls (zs_put (c' := .inl (ty, len, z_ins u i.toBitVec.toNat v)) hp hlt ?_ hS1 hup)
  rw [z_beq e1, ex]
  have e : (fun j => if j < len then zcR (zg_a E) (z_el 4 (z_ins u i.toBitVec.toNat (.inl (.ref q))) j) else none) = va_up (fun j => if j < len then zcR (zg_a E) (z_el 4 u j) else none) i.toNatClampNeg (some (zg_n E + q)) := by
    funext j
    unfold va_up
    rw [z_el_ins, a2]
    by_cases e : j = i.toBitVec.toNat
    · rw [if_pos e, if_pos e, if_pos (by omega), ← eq]; rfl
    · rw [if_neg e, if_neg e]
  show va_P _ _ (List.set _ a (_, Sum.inl (_, len, .inr (.inr (.inr (.inr fun j => if j < len then zcR (zg_a E) (z_el 4 (z_ins u i.toBitVec.toNat (.inl (.ref q))) j) else none)))))) H1
  rw [e]
  exact hP1
end
