/-! the actions that read and write cells -/
theorem z_obj_some {β' : Type} {H : zH} {k : Nat} {f : Nat → List zV → Option β'} {r : β'} (h : z_obj H k f = some r) : ∃ ci fs, k < H.1 ∧ z_hg H k = some (.inr (ci, fs)) ∧ f ci fs = some r := by
  obtain ⟨h1, h⟩ := z_if_some h
  obtain ⟨c, hc, h⟩ := z_ob_some h
  rcases c with a | b
  · cases h
  · exact ⟨b.1, b.2, z_blt h1, hc, h⟩
theorem z_arr_some {β' : Type} {H : zH} {k : Nat} {f : Nat → Nat → List (Nat × zV) → Option β'} {r : β'} (h : z_arr H k f = some r) : ∃ ty len u, k < H.1 ∧ z_hg H k = some (.inl (ty, len, u)) ∧ f ty len u = some r := by
  obtain ⟨h1, h⟩ := z_if_some h
  obtain ⟨c, hc, h⟩ := z_ob_some h
  rcases c with a | b
  · exact ⟨a.1, a.2.1, a.2.2, z_blt h1, hc, h⟩
  · cases h
theorem z_small {i : Int32} (h : i.toBitVec.toNat < 2147483648) : ¬ i < 0 ∧ i.toNatClampNeg = i.toBitVec.toNat := by
  have h1 : i.toInt = (i.toBitVec.toNat : Int) := by
    show i.toBitVec.toInt = _
    rw [BitVec.toInt_eq_toNat_cond]
    split <;> omega
  refine ⟨fun q => ?_, ?_⟩
  · have := Int32.lt_iff_toInt_lt.mp q
    rw [h1] at this
    have h0 : (0 : Int32).toInt = 0 := rfl
    omega
  · show i.toInt.toNat = _
    rw [h1]; omega
theorem z_in_ok {i : Int32} {n : Nat} (h : z_in i n = true) : vp_in i n ∧ i.toNatClampNeg = i.toBitVec.toNat ∧ i.toBitVec.toNat < n := by
  have h : z_if (Nat.blt i.toBitVec.toNat 2147483648) (Nat.blt i.toBitVec.toNat n) false = true := h
  cases e : Nat.blt i.toBitVec.toNat 2147483648 with
  | false => rw [e] at h; cases h
  | true =>
    rw [e] at h
    have h : Nat.blt i.toBitVec.toNat n = true := h
    have h2 := z_blt h
    obtain ⟨a, b⟩ := z_small (z_blt e)
    refine ⟨fun q => ?_, b, h2⟩
    rcases q with q | q
    · exact a q
    · rw [b] at q; omega
section
variable {p : Program} {l : Launch} {e0 : Env} {R : Room} {s : State} {m : MethodId} {args : Array Value} {below : List Frame} {meth : Method} {c : Code} {Q : State → Prop} {E : zG} {J : (Nat → va_E) → Prop} {M : zM} {Ms : List zM} {PR : zR → Prop} {PC : Nat × List zV × List zV → Prop} {β : zB} {F : zF} {o : zO}
theorem zS_of (hC : zCtx p R s m args c E M) {G : Nat → va_E} {H : Heap} {locs : List Loc} {ls : Array Slot} {nL : Nat} (hp : zPt E s nL G F H locs ls) : va_S (zgA E) s.heap H locs := by
  obtain ⟨-, -, -, -, -, -, -, h0, -⟩ := hC
  refine ⟨by rw [hp.2.2.1]; exact Nat.le_add_right _ _, fun q h1 h2 => ?_, hp.2.1⟩
  have hq : q < zg_n E := Nat.not_le.mp h2
  rw [hp.1.2.2.2 q hq, h0 q hq]
theorem zH_of (hC : zCtx p R s m args c E M) : ∀ a : Nat, a < (zg_H E).size → ¬ zgA E a → s.heap[a]? = (zg_H E)[a]? := by
  obtain ⟨-, -, -, -, -, -, -, h0, -⟩ := hC
  exact fun a _ h => h0 a (Nat.not_le.mp h)
theorem zs_Get {ci k idx : Nat} (hC : zCtx p R s m args c E M) (hcl : zClsOk) (hl : vwCl[ci]? = some (z_cw ci) ∧ k < (z_cw ci).2.2 ∧ Cond.fieldLink (zm_y M).cls idx ((z_cw ci).2.1 k).1 ((z_cw ci).2.1 k).2.1 ((z_cw ci).2.1 k).2.2.1 ∈ z_WS) (hdg : decode (zm_b M) F.1 = .ok (.getfield idx, 3)) (h : z_aGet ci k β F = some o) (hn : zNx (zWp p l e0 R s m args below meth c Q E J (zm_L M)) PR PC o) : zWp p l e0 R s m args below meth c Q E J (zm_L M) β F := by
  obtain ⟨hx, hb, hml, hown, hts, hE, hFx, -⟩ := hC
  obtain ⟨o1, t, hs, h⟩ := z_lc_some h
  obtain ⟨a, ha, h⟩ := z_ob_some h
  rw [z_cR_some ha] at hs
  obtain ⟨c1, fs, hlt, hg, h⟩ := z_obj_some h
  obtain ⟨h1, h⟩ := z_if_some h
  rw [z_beq h1] at hg
  obtain ⟨v, hv, h⟩ := z_ob_some h
  rw [z_nth_eq] at hv
  cases h
  intro hok G hJ H locs ls hp
  obtain ⟨hP, hsz, h256, hbel⟩ := hp.1
  rw [hs]
  show W p l e0 R s m args below meth c H locs F.2.2.2.2.1 F.2.2.2.2.2 Q (F0 m F.1 ls (.ref (zg_a E a) :: t.map (zv E)))
  rw [hFx.2.2.1 a (by omega)]
  exact va_get (C := (z_cw ci).1) (T := (z_cw ci).2.1) (N := (z_cw ci).2.2) (ref := ((z_cw ci).2.1 k).1) (index := idx) hx hb hts (hcl ci hl.1).1 hown hE.1 hP a (zw_get hlt hg) hl.1 k hl.2.1 (hts _ hl.2.2) (fun x h => h) (v := zv E v) (by rw [List.getElem?_map, hv]; rfl) hdg (hn hok G hJ H locs ls hp)
theorem zs_GetS {k idx : Nat} (hC : zCtx p R s m args c E M) (hl : match k with
      | 0 => Cond.fieldLink (zm_y M).cls idx "java/lang/String" "value" "[B" ∈ z_WS
      | _ => Cond.fieldLink (zm_y M).cls idx "java/lang/String" "coder" "B" ∈ z_WS) (hdg : decode (zm_b M) F.1 = .ok (.getfield idx, 3)) (h : z_aGetS k β F = some o) (hn : zNx (zWp p l e0 R s m args below meth c Q E J (zm_L M)) PR PC o) : zWp p l e0 R s m args below meth c Q E J (zm_L M) β F := by
  have hC0 := hC
  obtain ⟨hx, hb, hml, hown, hts, hE, hFx, -⟩ := hC
  obtain ⟨o1, t, hs, h⟩ := z_lc_some h
  obtain ⟨a, ha, h⟩ := z_ob_some h
  rw [z_cR_some ha] at hs
  obtain ⟨-, -, -, -, -, -, -, e8, e9, -, ⟨-, -, g8, g9, -⟩, -⟩ := hE
  cases q1 : Nat.beq a z_STR with
  | true =>
    rw [q1] at h
    rw [z_beq q1] at hs
    cases k with
    | zero =>
      cases h
      intro hok G hJ H locs ls hp
      rw [hs]
      exact vk_getf hx hb (va_OF.kept e9 (zH_of hC0)) (zS_of hC0 hp) hown (hts _ hl) (fun x h => h) hdg (hn hok G hJ H locs ls hp)
    | succ k =>
      cases h
      intro hok G hJ H locs ls hp
      rw [hs]
      exact vk_getf hx hb (va_OF.kept e8 (zH_of hC0)) (zS_of hC0 hp) hown (hts _ hl) (fun x h => h) hdg (hn hok G hJ H locs ls hp)
  | false =>
    rw [q1] at h
    obtain ⟨q2, h⟩ := z_if_some (show z_if (Nat.beq a z_STR2) _ none = some o from h)
    rw [z_beq q2] at hs
    cases k with
    | zero =>
      cases h
      intro hok G hJ H locs ls hp
      rw [hs]
      exact vk_getf hx hb (va_OF.kept g9 (zH_of hC0)) (zS_of hC0 hp) hown (hts _ hl) (fun x h => h) hdg (hn hok G hJ H locs ls hp)
    | succ k =>
      cases h
      intro hok G hJ H locs ls hp
      rw [hs]
      exact vk_getf hx hb (va_OF.kept g8 (zH_of hC0)) (zS_of hC0 hp) hown (hts _ hl) (fun x h => h) hdg (hn hok G hJ H locs ls hp)
theorem zs_gets {v : zV} {C nm d : String} {idx : Nat} (hC : zCtx p R s m args c E M) (hl : Cond.fieldLink (zm_y M).cls idx C nm d ∈ z_WS) (hZ : va_Z C nm d (zv E v) (zgA E) s (zg_H E)) (hdg : decode (zm_b M) F.1 = .ok (.getstatic idx, 3)) (h : z_aK 3 v β F = some o) (hn : zNx (zWp p l e0 R s m args below meth c Q E J (zm_L M)) PR PC o) : zWp p l e0 R s m args below meth c Q E J (zm_L M) β F := by
  have hC0 := hC
  obtain ⟨hx, hb, hml, hown, hts, hE, hFx, -⟩ := hC
  cases h
  intro hok G hJ H locs ls hp
  exact va_gets hx hb (va_Z.kept hZ (zH_of hC0)) (zS_of hC0 hp) hown (hts _ hl) (fun x h => h) hdg (hn hok G hJ H locs ls hp)
theorem z_tys_at {dA : Nat → ClassId} {ty : Nat} (h : ty < 5) : ∃ t, (z_tys dA)[ty]? = some (dA ty, t) := by
  rcases (show ty = 0 ∨ ty = 1 ∨ ty = 2 ∨ ty = 3 ∨ ty = 4 by omega) with rfl | rfl | rfl | rfl | rfl <;> exact ⟨_, rfl⟩
theorem zs_Len (hC : zCtx p R s m args c E M) (hdg : decode (zm_b M) F.1 = .ok (.arraylength, 1)) (h : z_aLen (zg_r E) β F = some o) (hn : zNx (zWp p l e0 R s m args below meth c Q E J (zm_L M)) PR PC o) : zWp p l e0 R s m args below meth c Q E J (zm_L M) β F := by
  have hC0 := hC
  obtain ⟨hx, hb, hml, hown, hts, hE, hFx, -, hnle, -⟩ := hC
  obtain ⟨o1, t, hs, h⟩ := z_lc_some h
  obtain ⟨a, ha, h⟩ := z_ob_some h
  rw [z_cR_some ha] at hs
  obtain ⟨e1, -, -, -, -, -, -, -, -, e10, ⟨-, -, -, -, g10⟩, L, -, e12, e13⟩ := hE
  cases q1 : Nat.beq a z_SCR with
  | true =>
    rw [q1] at h
    cases h
    rw [z_beq q1] at hs
    intro hok G hJ H locs ls hp
    rw [hs]
    refine va_slen hx hb (va_X.kept e12 (zH_of hC0 _ ?_ ?_)) (Nat.lt_of_lt_of_le hFx.1 hnle) (Nat.not_le.mpr hFx.1) (zS_of hC0 hp) hdg ?_
    · rw [hFx.2.1]; exact hFx.1
    · exact Nat.not_le.mpr hFx.1
    · have k := hn hok G hJ H locs ls hp
      rw [e13] at k
      exact k
  | false =>
    rw [q1] at h
    have h : z_if (Nat.beq a z_STV) _ _ = some o := h
    cases q2 : Nat.beq a z_STV with
    | true =>
      rw [q2] at h
      cases h
      rw [z_beq q2] at hs
      intro hok G hJ H locs ls hp
      rw [hs]
      exact va_tlen hx hb (va_T.kept e10 (zH_of hC0)) (zS_of hC0 hp) (v := 106) rfl hdg (hn hok G hJ H locs ls hp)
    | false =>
      rw [q2] at h
      have h : z_if (Nat.beq a z_STV2) _ _ = some o := h
      cases q3 : Nat.beq a z_STV2 with
      | true =>
        rw [q3] at h
        cases h
        rw [z_beq q3] at hs
        intro hok G hJ H locs ls hp
        rw [hs]
        exact va_tlen hx hb (va_T.kept g10 (zH_of hC0)) (zS_of hC0 hp) (v := 11) rfl hdg (hn hok G hJ H locs ls hp)
      | false =>
      rw [q3] at h
      obtain ⟨ty, len, u, hlt, hg, h⟩ := z_arr_some (show z_arr F.2.2.2.1 a _ = some o from h)
      obtain ⟨h5, h⟩ := z_if_some h
      cases h
      intro hok G hJ H locs ls hp
      obtain ⟨hP, hsz, h256, hbel⟩ := hp.1
      rw [hs]
      show W p l e0 R s m args below meth c H locs F.2.2.2.2.1 F.2.2.2.2.2 Q (F0 m F.1 ls (.ref (zg_a E a) :: t.map (zv E)))
      rw [hFx.2.2.1 a (by omega)]
      obtain ⟨ft, hft⟩ := z_tys_at (dA := zg_A E) (z_blt h5)
      exact va_alen hx hb e1 hP a ty (zw_get hlt hg) hft rfl hdg (hn hok G hJ H locs ls hp)
theorem z_ld_some {t1 t2 : Nat} {ok : zV → Bool} {i : Int32} {k : Nat} {t : List zV} (h : z_ld t1 t2 ok i k t β F = some o) : ∃ ty len u, k < F.2.2.2.1.1 ∧ z_hg F.2.2.2.1 k = some (.inl (ty, len, u)) ∧ (ty = t1 ∨ ty = t2) ∧ z_in i len = true ∧ ok (z_el ty u i.toBitVec.toNat) = true ∧ z_go β F 1 (z_el ty u i.toBitVec.toNat :: t) = some o := by
  obtain ⟨ty, len, u, hlt, hg, h⟩ := z_arr_some h
  obtain ⟨h1, h⟩ := z_if_some h
  obtain ⟨h2, h⟩ := z_if_some h
  obtain ⟨h3, h⟩ := z_if_some h
  refine ⟨ty, len, u, hlt, hg, ?_, h2, h3, h⟩
  cases q : Nat.beq ty t1 with
  | true => exact Or.inl (z_beq q)
  | false => rw [q] at h1; exact Or.inr (z_beq h1)
/-- an int's load out of one of our cells -/
theorem zs_ldI {t1 t2 : Nat} {i : Int32} {k : Nat} {v : zV} {t : List zV} (h31 : t1 ≠ 3 ∧ t1 ≠ 4 ∧ t2 ≠ 3 ∧ t2 ≠ 4) (hC : zCtx p R s m args c E M)
    (hr : ∀ (D : va_G) (ws : va_W) (ty len : Nat) (f : Nat → Int32) H locs ls rest a, (ty = t1 ∨ ty = t2) → va_P D vwCl ws H → va_K D vwCl (z_tys (zg_A E)) s → ws[k]? = some (a, .inl (zg_A E ty, len, .inl f)) → vp_in i len → W p l e0 R s m args below meth c H locs F.2.2.2.2.1 F.2.2.2.2.2 Q (F0 m (F.1 + 1) ls (.int (f i.toNatClampNeg) :: rest)) → W p l e0 R s m args below meth c H locs F.2.2.2.2.1 F.2.2.2.2.2 Q (F0 m F.1 ls (.int i :: .ref a :: rest)))
    (hs : F.2.2.1 = v :: .inl (.ref k) :: t) (hv : zok (zg_r E) β → zv E v = .int i) (h : z_ld t1 t2 z_isI i k t β F = some o) (hn : zNx (zWp p l e0 R s m args below meth c Q E J (zm_L M)) PR PC o) : zWp p l e0 R s m args below meth c Q E J (zm_L M) β F := by
  obtain ⟨hx, hb, hml, hown, hts, hE, hFx, -⟩ := hC
  obtain ⟨ty, len, u, hlt, hg, hty, hin, hok2, h⟩ := z_ld_some h
  cases h
  intro hok G hJ H locs ls hp
  obtain ⟨hP, hsz, h256, hbel⟩ := hp.1
  rw [hs]
  show W p l e0 R s m args below meth c H locs F.2.2.2.2.1 F.2.2.2.2.2 Q (F0 m F.1 ls (zv E v :: .ref (zg_a E k) :: t.map (zv E)))
  rw [hFx.2.2.1 k (by omega), hv hok]
  obtain ⟨a1, a2, a3⟩ := z_in_ok hin
  refine hr (zg_D E) (zwd E G F.2.2.2.1) ty len (fun j => if j < len then z_I (zg_r E) (z_el ty u j) else 0) H locs ls _ _ hty hP hE.1 ?_ a1 ?_
  · rw [zw_get hlt hg]
    show some (_, Sum.inl (_, _, zcf _ _ _ _ _)) = _
    rw [zcf_i (by rcases hty with e | e <;> rw [e] <;> first | exact h31.1 | exact h31.2.2.1) (by rcases hty with e | e <;> rw [e] <;> first | exact h31.2.1 | exact h31.2.2.2)]
  · show W p l e0 R s m args below meth c H locs F.2.2.2.2.1 F.2.2.2.2.2 Q (F0 m (F.1 + 1) ls (.int (if i.toNatClampNeg < len then z_I (zg_r E) (z_el ty u i.toNatClampNeg) else 0) :: t.map (zv E)))
    rw [a2, if_pos a3, ← show zv E (z_el ty u i.toBitVec.toNat) = _ from z_isI_c hok2]
    exact hn hok G hJ H locs ls hp
theorem zs_Ild (hC : zCtx p R s m args c E M) (hdg : decode (zm_b M) F.1 = .ok (.iaload, 1)) (h : z_aIld (zg_r E) β F = some o) (hn : zNx (zWp p l e0 R s m args below meth c Q E J (zm_L M)) PR PC o) : zWp p l e0 R s m args below meth c Q E J (zm_L M) β F := by
  have hC0 := hC
  obtain ⟨hx, hb, hml, hown, hts, hE, hFx, -, hnle, -⟩ := hC
  obtain ⟨v, s', hs, h⟩ := z_lc_some h
  obtain ⟨o1, t, hs', h⟩ := z_lc_some h
  rw [hs'] at hs
  refine zs_want h hn fun h => ?_
  obtain ⟨i, hi, h⟩ := z_ob_some h
  obtain ⟨a, ha, h⟩ := z_ob_some h
  rw [z_cR_some ha] at hs
  have hv : zok (zg_r E) β → zv E v = .int i := fun hok => (z_rs_ok (v := v) hok).symm.trans (by rw [z_cI_some hi]; rfl)
  cases q1 : Nat.beq a z_SCR with
  | true =>
    rw [q1] at h
    obtain ⟨h1, h⟩ := z_if_some (show z_if (z_in i (zg_r E 3072).toBitVec.toNat) _ none = some o from h)
    cases h
    rw [z_beq q1] at hs
    obtain ⟨-, -, -, -, -, -, -, -, -, -, -, L, hL, e12, e13⟩ := hE
    intro hok G hJ H locs ls hp
    rw [hs]
    show W p l e0 R s m args below meth c H locs F.2.2.2.2.1 F.2.2.2.2.2 Q (F0 m F.1 ls (zv E v :: .ref (zg_a E z_SCR) :: t.map (zv E)))
    rw [hv hok]
    obtain ⟨a1, a2, a3⟩ := z_in_ok h1
    have hiL : i.toBitVec.toNat < L := by
      have b3 : (zg_r E 3072).toBitVec.toNat = L := by
        rw [show zg_r E 3072 = Int32.ofNat L from e13]
        show (BitVec.ofNat 32 L).toNat = L
        rw [BitVec.toNat_ofNat]
        exact Nat.mod_eq_of_lt (by omega)
      rw [b3] at a3
      exact a3
    refine va_sld hx hb (va_X.kept e12 (zH_of hC0 _ ?_ ?_)) (Nat.lt_of_lt_of_le hFx.1 hnle) (Nat.not_le.mpr hFx.1) (zS_of hC0 hp) (i := i) ?_ hdg ?_
    · rw [hFx.2.1]; exact hFx.1
    · exact Nat.not_le.mpr hFx.1
    · intro q
      rcases q with q | q
      · exact a1 (Or.inl q)
      · rw [a2] at q; omega
    · rw [a2]
      exact hn hok G hJ H locs ls hp
  | false =>
    rw [q1] at h
    exact zs_ldI (t1 := 0) (t2 := 0) (by decide) hC0 (fun D ws ty len f H locs ls rest a hty hP hK ha hin k => va_iald hx hb hK hP _ 0 ha (by rcases hty with rfl | rfl <;> rfl) hin hdg k) hs hv h hn
theorem zs_Bld (hC : zCtx p R s m args c E M) (hdg : decode (zm_b M) F.1 = .ok (.baload, 1)) (h : z_aBld β F = some o) (hn : zNx (zWp p l e0 R s m args below meth c Q E J (zm_L M)) PR PC o) : zWp p l e0 R s m args below meth c Q E J (zm_L M) β F := by
  have hC0 := hC
  obtain ⟨hx, hb, hml, hown, hts, hE, hFx, -, hnle, -⟩ := hC
  obtain ⟨v, s', hs, h⟩ := z_lc_some h
  obtain ⟨o1, t, hs', h⟩ := z_lc_some h
  rw [hs'] at hs
  refine zs_want h hn fun h => ?_
  obtain ⟨i, hi, h⟩ := z_ob_some h
  obtain ⟨a, ha, h⟩ := z_ob_some h
  rw [z_cR_some ha] at hs
  have hv : zok (zg_r E) β → zv E v = .int i := fun hok => (z_rs_ok (v := v) hok).symm.trans (by rw [z_cI_some hi]; rfl)
  cases q1 : Nat.beq a z_STV with
  | true =>
    rw [q1] at h
    obtain ⟨h1, h⟩ := z_if_some (show z_if (z_in i 106) _ none = some o from h)
    obtain ⟨x, hx2, h⟩ := z_ob_some h
    cases h
    rw [z_nth_eq] at hx2
    rw [z_beq q1] at hs
    obtain ⟨-, -, -, -, -, -, -, -, -, e10, -⟩ := hE
    intro hok G hJ H locs ls hp
    rw [hs]
    show W p l e0 R s m args below meth c H locs F.2.2.2.2.1 F.2.2.2.2.2 Q (F0 m F.1 ls (zv E v :: .ref (zg_a E z_STV) :: t.map (zv E)))
    rw [hv hok]
    obtain ⟨a1, a2, a3⟩ := z_in_ok h1
    refine va_tb hx hb (va_T.kept e10 (zH_of hC0)) (zS_of hC0 hp) (i := i) a1 (v := .int x) ?_ hdg (hn hok G hJ H locs ls hp)
    show Value.int (z_txt.getD i.toNatClampNeg 0) = .int x
    rw [a2, List.getD_eq_getElem?_getD, hx2]
    rfl
  | false =>
    rw [q1] at h
    have h : z_if (Nat.beq a z_STV2) _ _ = some o := h
    cases q3 : Nat.beq a z_STV2 with
    | true =>
      rw [q3] at h
      obtain ⟨h1, h⟩ := z_if_some (show z_if (z_in i 11) _ none = some o from h)
      obtain ⟨x, hx2, h⟩ := z_ob_some h
      cases h
      rw [z_nth_eq] at hx2
      rw [z_beq q3] at hs
      obtain ⟨-, -, -, -, -, -, -, -, -, -, ⟨-, -, -, -, g10⟩, -⟩ := hE
      intro hok G hJ H locs ls hp
      rw [hs]
      show W p l e0 R s m args below meth c H locs F.2.2.2.2.1 F.2.2.2.2.2 Q (F0 m F.1 ls (zv E v :: .ref (zg_a E z_STV2) :: t.map (zv E)))
      rw [hv hok]
      obtain ⟨a1, a2, a3⟩ := z_in_ok h1
      refine va_tb hx hb (va_T.kept g10 (zH_of hC0)) (zS_of hC0 hp) (i := i) a1 (v := .int x) ?_ hdg (hn hok G hJ H locs ls hp)
      show Value.int (z_sgn.getD i.toNatClampNeg 0) = .int x
      rw [a2, List.getD_eq_getElem?_getD, hx2]
      rfl
    | false =>
    rw [q3] at h
    refine zs_ldI (t1 := 1) (t2 := 2) (by decide) hC0 (fun D ws ty len f H locs ls rest a hty hP hK ha hin k => ?_) hs hv h hn
    rcases hty with rfl | rfl
    · exact va_bald hx hb hK hP _ 1 ha rfl hin hdg k
    · exact va_zald hx hb hK hP _ 2 ha rfl hin hdg k
theorem zs_Ald (hC : zCtx p R s m args c E M) (hdg : decode (zm_b M) F.1 = .ok (.aaload, 1)) (h : z_aXld 4 z_isA β F = some o) (hn : zNx (zWp p l e0 R s m args below meth c Q E J (zm_L M)) PR PC o) : zWp p l e0 R s m args below meth c Q E J (zm_L M) β F := by
  obtain ⟨hx, hb, hml, hown, hts, hE, hFx, -, hnle, -⟩ := hC
  obtain ⟨v, s', hs, h⟩ := z_lc_some h
  obtain ⟨o1, t, hs', h⟩ := z_lc_some h
  rw [hs'] at hs
  refine zs_want h hn fun h => ?_
  obtain ⟨i, hi, h⟩ := z_ob_some h
  obtain ⟨k, ha, h⟩ := z_ob_some h
  rw [z_cR_some ha] at hs
  obtain ⟨ty, len, u, hlt, hg, hty, hin, hok2, h⟩ := z_ld_some h
  have hty : ty = 4 := by rcases hty with e | e <;> exact e
  rw [hty] at hg hok2 h
  cases h
  intro hok G hJ H locs ls hp
  obtain ⟨hP, hsz, h256, hbel⟩ := hp.1
  rw [hs]
  show W p l e0 R s m args below meth c H locs F.2.2.2.2.1 F.2.2.2.2.2 Q (F0 m F.1 ls (zv E v :: .ref (zg_a E k) :: t.map (zv E)))
  rw [hFx.2.2.1 k (by omega), show zv E v = .int i from (z_rs_ok (v := v) hok).symm.trans (by rw [z_cI_some hi]; rfl)]
  obtain ⟨a1, a2, a3⟩ := z_in_ok hin
  refine va_aldq (C := "FarBank$State") (f := fun j => if j < len then zcR (zg_a E) (z_el 4 u j) else none) hx hb hE.1 hP k 4 (zw_get hlt hg) rfl a1 hdg ?_
  show W p l e0 R s m args below meth c H locs F.2.2.2.2.1 F.2.2.2.2.2 Q (F0 m (F.1 + 1) ls (va_rf (if i.toNatClampNeg < len then zcR (zg_a E) (z_el 4 u i.toNatClampNeg) else none) :: t.map (zv E)))
  rw [a2, if_pos a3]
  have e : va_rf (zcR (zg_a E) (z_el 4 u i.toBitVec.toNat)) = zv E (z_el 4 u i.toBitVec.toNat) := by
    rcases z_isA_some hok2 with e | ⟨q, e⟩ <;> rw [e] <;> rfl
  rw [e]
  exact hn hok G hJ H locs ls hp
theorem zs_Lld (hC : zCtx p R s m args c E M) (hdg : decode (zm_b M) F.1 = .ok (.laload, 1)) (h : z_aXld 3 z_isL β F = some o) (hn : zNx (zWp p l e0 R s m args below meth c Q E J (zm_L M)) PR PC o) : zWp p l e0 R s m args below meth c Q E J (zm_L M) β F := by
  obtain ⟨hx, hb, hml, hown, hts, hE, hFx, -, hnle, -⟩ := hC
  obtain ⟨v, s', hs, h⟩ := z_lc_some h
  obtain ⟨o1, t, hs', h⟩ := z_lc_some h
  rw [hs'] at hs
  refine zs_want h hn fun h => ?_
  obtain ⟨i, hi, h⟩ := z_ob_some h
  obtain ⟨k, ha, h⟩ := z_ob_some h
  rw [z_cR_some ha] at hs
  obtain ⟨ty, len, u, hlt, hg, hty, hin, hok2, h⟩ := z_ld_some h
  have hty : ty = 3 := by rcases hty with e | e <;> exact e
  rw [hty] at hg hok2 h
  cases h
  intro hok G hJ H locs ls hp
  obtain ⟨hP, hsz, h256, hbel⟩ := hp.1
  rw [hs]
  show W p l e0 R s m args below meth c H locs F.2.2.2.2.1 F.2.2.2.2.2 Q (F0 m F.1 ls (zv E v :: .ref (zg_a E k) :: t.map (zv E)))
  rw [hFx.2.2.1 k (by omega), show zv E v = .int i from (z_rs_ok (v := v) hok).symm.trans (by rw [z_cI_some hi]; rfl)]
  obtain ⟨a1, a2, a3⟩ := z_in_ok hin
  refine va_lald (f := fun j => if j < len then zcL (z_el 3 u j) else 0) hx hb hE.1 hP k 3 (zw_get hlt hg) rfl a1 hdg ?_
  show W p l e0 R s m args below meth c H locs F.2.2.2.2.1 F.2.2.2.2.2 Q (F0 m (F.1 + 1) ls (.long (if i.toNatClampNeg < len then zcL (z_el 3 u i.toNatClampNeg) else 0) :: t.map (zv E)))
  rw [a2, if_pos a3]
  have e : Value.long (zcL (z_el 3 u i.toBitVec.toNat)) = zv E (z_el 3 u i.toBitVec.toNat) := by
    obtain ⟨q, e⟩ := z_isL_some hok2
    rw [e]; rfl
  rw [e]
  exact hn hok G hJ H locs ls hp
end
