/-! the walk's claim at a point, and the actions that leave the heap alone -/
def zPt (E : zG) (s : State) (nL : Nat) (G : Nat → va_E) (F : zF) (H : Heap) (locs : List Loc) (ls : Array Slot) : Prop := zRel E G F.2.2.2.1 H ∧ (∀ q ∈ locs, zgA E q.base) ∧ H.size = s.heap.size + F.2.2.2.2.1 ∧ lv_has ls nL (F.2.1.map fun q => (q.1, zv E q.2))
def zWp (p : Program) (l : Launch) (e0 : Env) (R : Room) (s : State) (m : MethodId) (args : Array Value) (below : List Frame) (meth : Method) (c : Code) (Q : State → Prop) (E : zG) (J : (Nat → va_E) → Prop) (nL : Nat) (β : zB) (F : zF) : Prop :=
  zok (zg_r E) β → ∀ G, J G → ∀ H locs ls, zPt E s nL G F H locs ls → W p l e0 R s m args below meth c H locs F.2.2.2.2.1 F.2.2.2.2.2 Q (F0 m F.1 ls (F.2.2.1.map (zv E)))
def zNx (P : zB → zF → Prop) (PR : zR → Prop) (PC : Nat × List zV × List zV → Prop) (o : zO) : Prop := match o with
  | .inl s => P s.1 s.2
  | .inr (.inl ss) => ∀ s ∈ ss, P s.1 s.2
  | .inr (.inr (.inl r)) => PR r
  | .inr (.inr (.inr c)) => PC c
/-- the machine at the method's entry -/
def zCtx (p : Program) (R : Room) (s : State) (m : MethodId) (args : Array Value) (c : Code) (E : zG) (M : zM) : Prop :=
  p.tables.exec = Jvm.exec ∧ c.code = zm_b M ∧ c.maxLocals = zm_L M ∧ s.vm.findClass (zm_y M).cls = some m.cls ∧ (∀ w ∈ z_WS, w.before args s = true) ∧ zEnv E s ∧ zFix E ∧ (∀ q, q < zg_n E → s.heap[q]? = (zg_H E)[q]?) ∧ zg_n E ≤ s.heap.size ∧
  zm_mc M ≤ R.cells ∧ zm_ms M ≤ R.slots ∧ 1 ≤ R.frames ∧ 64 ≤ R.locals
section
variable {p : Program} {l : Launch} {e0 : Env} {R : Room} {s : State} {m : MethodId} {args : Array Value} {below : List Frame} {meth : Method} {c : Code} {Q : State → Prop} {E : zG} {J : (Nat → va_E) → Prop} {M : zM} {Ms : List zM} {PR : zR → Prop} {PC : Nat × List zV × List zV → Prop} {β : zB} {F : zF} {o : zO}
theorem zs_go {k : Nat} {st : List zV} (hr : zok (zg_r E) β → ∀ H locs ls, lv_has ls (zm_L M) (F.2.1.map fun q => (q.1, zv E q.2)) → W p l e0 R s m args below meth c H locs F.2.2.2.2.1 F.2.2.2.2.2 Q (F0 m (F.1 + k) ls (st.map (zv E))) → W p l e0 R s m args below meth c H locs F.2.2.2.2.1 F.2.2.2.2.2 Q (F0 m F.1 ls (F.2.2.1.map (zv E))))
    (h : zWp p l e0 R s m args below meth c Q E J (zm_L M) β (Nat.add F.1 k, F.2.1, st, F.2.2.2)) : zWp p l e0 R s m args below meth c Q E J (zm_L M) β F := fun hok G hJ H locs ls hp => hr hok H locs ls hp.2.2.2 (h hok G hJ H locs ls hp)
theorem zs_K {k : Nat} {v : zV} (hr : ∀ H locs ls rest, W p l e0 R s m args below meth c H locs F.2.2.2.2.1 F.2.2.2.2.2 Q (F0 m (F.1 + k) ls (zv E v :: rest)) → W p l e0 R s m args below meth c H locs F.2.2.2.2.1 F.2.2.2.2.2 Q (F0 m F.1 ls rest)) (h : z_aK k v β F = some o) (hn : zNx (zWp p l e0 R s m args below meth c Q E J (zm_L M)) PR PC o) : zWp p l e0 R s m args below meth c Q E J (zm_L M) β F := by
  cases h
  exact zs_go (fun _ H locs ls _ k => hr H locs ls _ k) hn
theorem z_get_mem : ∀ {ls : zL} {i : Nat} {v : zV}, z_get ls i = some v → (i, v) ∈ ls
  | [], _, _, h => by cases h
  | q :: t, i, v, h => by
    have h : z_if (Nat.beq q.1 i) (some q.2) (z_get t i) = some v := h
    cases e : Nat.beq q.1 i with
    | true =>
      rw [e] at h
      cases h
      rw [← z_beq e]
      exact List.mem_cons_self
    | false =>
      rw [e] at h
      exact List.mem_cons_of_mem _ (z_get_mem h)
theorem zs_Ld {k i : Nat} {ok : zV → Bool} (hr : ∀ v H locs ls rest, ok v = true → ls[i]? = some (.val (zv E v)) → W p l e0 R s m args below meth c H locs F.2.2.2.2.1 F.2.2.2.2.2 Q (F0 m (F.1 + k) ls (zv E v :: rest)) → W p l e0 R s m args below meth c H locs F.2.2.2.2.1 F.2.2.2.2.2 Q (F0 m F.1 ls rest)) (h : z_aLd k i ok β F = some o) (hn : zNx (zWp p l e0 R s m args below meth c Q E J (zm_L M)) PR PC o) : zWp p l e0 R s m args below meth c Q E J (zm_L M) β F := by
  obtain ⟨v, hv, h⟩ := z_ob_some h
  obtain ⟨h1, h⟩ := z_if_some h
  cases h
  refine zs_go (fun _ H locs ls hl k => hr v H locs ls _ h1 ?_ k) hn
  exact hl.2.2 (i, zv E v) (List.mem_map.mpr ⟨(i, v), z_get_mem hv, rfl⟩)
theorem z_put1_eq (hf : (zg_f E).category = 1) (i : Nat) (v : zV) (ls : zL) : (z_put1 ls i v).map (fun q => (q.1, zv E q.2)) = (i, zv E v) :: (ls.map (fun q => (q.1, zv E q.2))).filter (fun q => !(q.1 == i) && !(q.1 + 1 == i && q.2.category == 2)) := by
  show (i, zv E v) :: _ = _
  congr 1
  induction ls with
  | nil => rfl
  | cons q t ih =>
    rw [List.map_cons, List.filter_cons]
    show List.map _ (z_if (Nat.beq q.1 i) (List.rec (motive := fun _ => zL) [] _ t) (z_if (Nat.beq (Nat.succ q.1) i) (z_if (Nat.beq (z_cat q.2) 2) (List.rec (motive := fun _ => zL) [] _ t) (q :: List.rec (motive := fun _ => zL) [] _ t)) (q :: List.rec (motive := fun _ => zL) [] _ t))) = _
    have hc : (zv E q.2).category = z_cat q.2 := z_cat_c hf q.2
    cases e1 : Nat.beq q.1 i with
    | true =>
      have h1 := z_beq e1
      simp only [h1]
      simp
      simpa using ih
    | false =>
      have h1 := z_nbeq e1
      cases e2 : Nat.beq (Nat.succ q.1) i with
      | false =>
        have h2 : q.1 + 1 ≠ i := z_nbeq e2
        simp [h1, h2]
        simpa using ih
      | true =>
        have h2 : q.1 + 1 = i := z_beq e2
        cases e3 : Nat.beq (z_cat q.2) 2 with
        | true =>
          have h3 := z_beq e3
          simp [h1, h2, hc, h3]
          simpa using ih
        | false =>
          have h3 := z_nbeq e3
          simp [h1, h2, hc, h3]
          simpa using ih
theorem z_put2_eq (hf : (zg_f E).category = 1) (i : Nat) (v : zV) (ls : zL) : (z_put2 ls i v).map (fun q => (q.1, zv E q.2)) = (i, zv E v) :: (ls.map (fun q => (q.1, zv E q.2))).filter (fun q => !(q.1 == i) && (!(q.1 == i + 1) && !(q.1 + 1 == i && q.2.category == 2))) := by
  show (i, zv E v) :: _ = _
  congr 1
  induction ls with
  | nil => rfl
  | cons q t ih =>
    rw [List.map_cons, List.filter_cons]
    show List.map _ (z_if (Nat.beq q.1 i) (List.rec (motive := fun _ => zL) [] _ t) (z_if (Nat.beq q.1 (Nat.succ i)) (List.rec (motive := fun _ => zL) [] _ t) (z_if (Nat.beq (Nat.succ q.1) i) (z_if (Nat.beq (z_cat q.2) 2) (List.rec (motive := fun _ => zL) [] _ t) (q :: List.rec (motive := fun _ => zL) [] _ t)) (q :: List.rec (motive := fun _ => zL) [] _ t)))) = _
    have hc : (zv E q.2).category = z_cat q.2 := z_cat_c hf q.2
    cases e1 : Nat.beq q.1 i with
    | true =>
      have h1 := z_beq e1
      simp only [h1]
      simp
      simpa using ih
    | false =>
      have h1 := z_nbeq e1
      cases e0 : Nat.beq q.1 (Nat.succ i) with
      | true =>
        have h0 : q.1 = i + 1 := z_beq e0
        simp only [h0]
        simp
        simpa using ih
      | false =>
      have h0 : q.1 ≠ i + 1 := z_nbeq e0
      cases e2 : Nat.beq (Nat.succ q.1) i with
      | false =>
        have h2 : q.1 + 1 ≠ i := z_nbeq e2
        simp [h1, h0, h2]
        simpa using ih
      | true =>
        have h2 : q.1 + 1 = i := z_beq e2
        cases e3 : Nat.beq (z_cat q.2) 2 with
        | true =>
          have h3 := z_beq e3
          simp [h1, h0, h2, hc, h3]
          simpa using ih
        | false =>
          have h3 := z_nbeq e3
          simp [h1, h0, h2, hc, h3]
          simpa using ih
theorem zs_goL {k : Nat} {ls' : zL} {st : List zV} (hr : ∀ H locs ls, lv_has ls (zm_L M) (F.2.1.map fun q => (q.1, zv E q.2)) → (∀ ls2, lv_has ls2 (zm_L M) (ls'.map fun q => (q.1, zv E q.2)) → W p l e0 R s m args below meth c H locs F.2.2.2.2.1 F.2.2.2.2.2 Q (F0 m (F.1 + k) ls2 (st.map (zv E)))) → W p l e0 R s m args below meth c H locs F.2.2.2.2.1 F.2.2.2.2.2 Q (F0 m F.1 ls (F.2.2.1.map (zv E))))
    (h : zWp p l e0 R s m args below meth c Q E J (zm_L M) β (Nat.add F.1 k, ls', st, F.2.2.2)) : zWp p l e0 R s m args below meth c Q E J (zm_L M) β F := fun hok G hJ H locs ls hp => hr H locs ls hp.2.2.2 (fun ls2 h2 => h hok G hJ H locs ls2 ⟨hp.1, hp.2.1, hp.2.2.1, h2⟩)
theorem zs_St {k i : Nat} {ok : zV → Bool} (hf : (zg_f E).category = 1) (hr : ∀ v H locs ls rest lv lv', ok v = true → lv_has ls (zm_L M) lv → i < zm_L M → (i, zv E v) :: lv.filter (fun q => !(q.1 == i) && !(q.1 + 1 == i && q.2.category == 2)) = lv' → (∀ ls2, lv_has ls2 (zm_L M) lv' → W p l e0 R s m args below meth c H locs F.2.2.2.2.1 F.2.2.2.2.2 Q (F0 m (F.1 + k) ls2 rest)) → W p l e0 R s m args below meth c H locs F.2.2.2.2.1 F.2.2.2.2.2 Q (F0 m F.1 ls (zv E v :: rest)))
    (h : z_aSt k i (zm_L M) ok β F = some o) (hn : zNx (zWp p l e0 R s m args below meth c Q E J (zm_L M)) PR PC o) : zWp p l e0 R s m args below meth c Q E J (zm_L M) β F := by
  obtain ⟨v, t, hs, h⟩ := z_lc_some h
  obtain ⟨h1, h⟩ := z_if_some h
  obtain ⟨h2, h⟩ := z_if_some h
  cases h
  refine zs_goL (fun H locs ls hl k => ?_) hn
  rw [hs]
  exact hr v H locs ls _ _ _ h1 hl (z_blt h2) (z_put1_eq hf i v F.2.1).symm k
theorem zs_St2 {k i : Nat} (hf : (zg_f E).category = 1) (hr : ∀ v H locs ls rest lv lv', z_isL v = true → lv_has ls (zm_L M) lv → i + 1 < zm_L M → (i, zv E v) :: lv.filter (fun q => !(q.1 == i) && (!(q.1 == i + 1) && !(q.1 + 1 == i && q.2.category == 2))) = lv' → (∀ ls2, lv_has ls2 (zm_L M) lv' → W p l e0 R s m args below meth c H locs F.2.2.2.2.1 F.2.2.2.2.2 Q (F0 m (F.1 + k) ls2 rest)) → W p l e0 R s m args below meth c H locs F.2.2.2.2.1 F.2.2.2.2.2 Q (F0 m F.1 ls (zv E v :: rest)))
    (h : z_aSt2 k i (zm_L M) β F = some o) (hn : zNx (zWp p l e0 R s m args below meth c Q E J (zm_L M)) PR PC o) : zWp p l e0 R s m args below meth c Q E J (zm_L M) β F := by
  obtain ⟨v, t, hs, h⟩ := z_lc_some h
  obtain ⟨h1, h⟩ := z_if_some h
  obtain ⟨h2, h⟩ := z_if_some h
  cases h
  refine zs_goL (fun H locs ls hl k => ?_) hn
  rw [hs]
  exact hr v H locs ls _ _ _ h1 hl (z_blt h2) (z_put2_eq hf i v F.2.1).symm k
theorem zs_Inc {i : Nat} {k : Int} (hC : zCtx p R s m args c E M) (hdg : decode (zm_b M) F.1 = .ok (.iinc i k, 3)) (h : z_aInc i (zm_L M) (Int32.ofInt k) β F = some o) (hn : zNx (zWp p l e0 R s m args below meth c Q E J (zm_L M)) PR PC o) : zWp p l e0 R s m args below meth c Q E J (zm_L M) β F := by
  obtain ⟨hx, hb, -, -, -, -, hFx, -⟩ := hC
  obtain ⟨v, hv, h⟩ := z_ob_some h
  obtain ⟨w, hw, h⟩ := z_ob_some h
  obtain ⟨h2, h⟩ := z_if_some h
  cases h
  obtain ⟨i1, -, i3, i4⟩ := z_op2_ok (ρ := zg_r E) hw
  refine zs_goL (fun H locs ls hl k => ?_) hn
  have hm : (i, zv E v) ∈ F.2.1.map (fun q => (q.1, zv E q.2)) := List.mem_map.mpr ⟨(i, v), z_get_mem hv, rfl⟩
  obtain ⟨j, hj⟩ := List.getElem?_of_mem hm
  have hj : (F.2.1.map fun q => (q.1, zv E q.2))[j]? = some (i, .int (z_I (zg_r E) v)) := by rw [hj]; rw [show zv E v = _ from z_isI_c i1]
  refine lv_iinc hx hb hdg hl (k := j) hj i4.symm (z_blt h2) ?_ k
  rw [z_put1_eq hFx.2.2.2]
  rw [show zv E w = _ from z_isI_c i3]
theorem zs_want {v : zV} {k : zV → Option zO} (h : z_want v β F k = some o) (hn : zNx (zWp p l e0 R s m args below meth c Q E J (zm_L M)) PR PC o) (hk : k (z_rs β v) = some o → zWp p l e0 R s m args below meth c Q E J (zm_L M) β F) : zWp p l e0 R s m args below meth c Q E J (zm_L M) β F := by
  unfold z_want at h
  cases e : z_cut v β with
  | none => rw [e] at h; exact hk h
  | some q =>
    rw [e] at h
    have h : z_cutA q β F = some o := h
    cases h
    intro hok
    obtain ⟨x, hx, h1, -⟩ := z_rf2_ok (ρ := zg_r E) (r := .eq) (i := q.1) (c := q.2) hok
    exact hn (x.2, F) (List.mem_map.mpr ⟨x, hx, rfl⟩) h1
theorem zs_bin {f : zV → zV → Option zV} {g : Int32 → Int32 → Int32} {cond : Int32 → Prop} (hf : ∀ a b c, f a b = some c → z_isI a = true ∧ z_isI b = true ∧ z_isI c = true ∧ z_I (zg_r E) c = g (z_I (zg_r E) a) (z_I (zg_r E) b) ∧ cond (z_I (zg_r E) b))
    (hr : ∀ H locs ls rest x y, cond y → W p l e0 R s m args below meth c H locs F.2.2.2.2.1 F.2.2.2.2.2 Q (F0 m (F.1 + 1) ls (.int (g x y) :: rest)) → W p l e0 R s m args below meth c H locs F.2.2.2.2.1 F.2.2.2.2.2 Q (F0 m F.1 ls (.int y :: .int x :: rest)))
    (h : z_aBin f β F = some o) (hn : zNx (zWp p l e0 R s m args below meth c Q E J (zm_L M)) PR PC o) : zWp p l e0 R s m args below meth c Q E J (zm_L M) β F := by
  obtain ⟨b, s', hs, h⟩ := z_lc_some h
  obtain ⟨a, t, hs', h⟩ := z_lc_some h
  subst hs'
  refine zs_want h hn fun h => ?_
  refine zs_want h hn fun h => ?_
  obtain ⟨c', hc, h⟩ := z_ob_some h
  cases h
  obtain ⟨i1, i2, i3, i4, i5⟩ := hf _ _ _ hc
  refine zs_go (fun hok H locs ls hl k => ?_) hn
  rw [hs]
  show W p l e0 R s m args below meth c H locs F.2.2.2.2.1 F.2.2.2.2.2 Q (F0 m F.1 ls (zv E b :: zv E a :: t.map (zv E)))
  have eb : zv E b = .int (z_I (zg_r E) (z_rs β b)) := (z_rs_ok (v := b) hok).symm.trans (z_isI_c i2)
  have ea : zv E a = .int (z_I (zg_r E) (z_rs β a)) := (z_rs_ok (v := a) hok).symm.trans (z_isI_c i1)
  rw [ea, eb]
  refine hr H locs ls _ _ _ i5 ?_
  rw [← i4, ← show zv E c' = _ from z_isI_c i3]
  exact k
theorem zs_lbin {f : Int64 → Int64 → Int64} (hr : ∀ H locs ls rest x y, W p l e0 R s m args below meth c H locs F.2.2.2.2.1 F.2.2.2.2.2 Q (F0 m (F.1 + 1) ls (.long (f x y) :: rest)) → W p l e0 R s m args below meth c H locs F.2.2.2.2.1 F.2.2.2.2.2 Q (F0 m F.1 ls (.long y :: .long x :: rest)))
    (h : z_aBin (z_lop f) β F = some o) (hn : zNx (zWp p l e0 R s m args below meth c Q E J (zm_L M)) PR PC o) : zWp p l e0 R s m args below meth c Q E J (zm_L M) β F := by
  obtain ⟨b, s', hs, h⟩ := z_lc_some h
  obtain ⟨a, t, hs', h⟩ := z_lc_some h
  subst hs'
  refine zs_want h hn fun h => ?_
  refine zs_want h hn fun h => ?_
  obtain ⟨c', hc, h⟩ := z_ob_some h
  cases h
  obtain ⟨x, ex, hc⟩ := z_ob_some hc
  obtain ⟨y, ey, hc⟩ := z_ob_some hc
  cases hc
  refine zs_go (fun hok H locs ls hl k => ?_) hn
  rw [hs]
  show W p l e0 R s m args below meth c H locs F.2.2.2.2.1 F.2.2.2.2.2 Q (F0 m F.1 ls (zv E b :: zv E a :: t.map (zv E)))
  have eb : zv E b = .long y := (z_rs_ok (v := b) hok).symm.trans (by rw [z_cL_some ey]; rfl)
  have ea : zv E a = .long x := (z_rs_ok (v := a) hok).symm.trans (by rw [z_cL_some ex]; rfl)
  rw [ea, eb]
  exact hr H locs ls _ _ _ k
theorem zs_lcm (hr : ∀ H locs ls rest x y, W p l e0 R s m args below meth c H locs F.2.2.2.2.1 F.2.2.2.2.2 Q (F0 m (F.1 + 1) ls (.int (lg_cmp x y) :: rest)) → W p l e0 R s m args below meth c H locs F.2.2.2.2.1 F.2.2.2.2.2 Q (F0 m F.1 ls (.long y :: .long x :: rest)))
    (h : z_aBin z_lcm β F = some o) (hn : zNx (zWp p l e0 R s m args below meth c Q E J (zm_L M)) PR PC o) : zWp p l e0 R s m args below meth c Q E J (zm_L M) β F := by
  obtain ⟨b, s', hs, h⟩ := z_lc_some h
  obtain ⟨a, t, hs', h⟩ := z_lc_some h
  subst hs'
  refine zs_want h hn fun h => ?_
  refine zs_want h hn fun h => ?_
  obtain ⟨c', hc, h⟩ := z_ob_some h
  cases h
  obtain ⟨x, ex, hc⟩ := z_ob_some hc
  obtain ⟨y, ey, hc⟩ := z_ob_some hc
  rw [z_frc_eq] at hc
  cases hc
  refine zs_go (fun hok H locs ls hl k => ?_) hn
  rw [hs]
  show W p l e0 R s m args below meth c H locs F.2.2.2.2.1 F.2.2.2.2.2 Q (F0 m F.1 ls (zv E b :: zv E a :: t.map (zv E)))
  have eb : zv E b = .long y := (z_rs_ok (v := b) hok).symm.trans (by rw [z_cL_some ey]; rfl)
  have ea : zv E a = .long x := (z_rs_ok (v := a) hok).symm.trans (by rw [z_cL_some ex]; rfl)
  rw [ea, eb]
  exact hr H locs ls _ _ _ k
theorem zs_lsh (hr : ∀ H locs ls rest x y, W p l e0 R s m args below meth c H locs F.2.2.2.2.1 F.2.2.2.2.2 Q (F0 m (F.1 + 1) ls (.long (x <<< (Int32.toInt64 y &&& 63)) :: rest)) → W p l e0 R s m args below meth c H locs F.2.2.2.2.1 F.2.2.2.2.2 Q (F0 m F.1 ls (.int y :: .long x :: rest)))
    (h : z_aBin z_lsh β F = some o) (hn : zNx (zWp p l e0 R s m args below meth c Q E J (zm_L M)) PR PC o) : zWp p l e0 R s m args below meth c Q E J (zm_L M) β F := by
  obtain ⟨b, s', hs, h⟩ := z_lc_some h
  obtain ⟨a, t, hs', h⟩ := z_lc_some h
  subst hs'
  refine zs_want h hn fun h => ?_
  refine zs_want h hn fun h => ?_
  obtain ⟨c', hc, h⟩ := z_ob_some h
  cases h
  obtain ⟨x, ex, hc⟩ := z_ob_some hc
  obtain ⟨y, ey, hc⟩ := z_ob_some hc
  cases hc
  refine zs_go (fun hok H locs ls hl k => ?_) hn
  rw [hs]
  show W p l e0 R s m args below meth c H locs F.2.2.2.2.1 F.2.2.2.2.2 Q (F0 m F.1 ls (zv E b :: zv E a :: t.map (zv E)))
  have eb : zv E b = .int y := (z_rs_ok (v := b) hok).symm.trans (by rw [z_cI_some ey]; rfl)
  have ea : zv E a = .long x := (z_rs_ok (v := a) hok).symm.trans (by rw [z_cL_some ex]; rfl)
  rw [ea, eb]
  exact hr H locs ls _ _ _ k
theorem zs_un {g : Int32 → Int32} (hr : ∀ H locs ls rest x, W p l e0 R s m args below meth c H locs F.2.2.2.2.1 F.2.2.2.2.2 Q (F0 m (F.1 + 1) ls (.int (g x) :: rest)) → W p l e0 R s m args below meth c H locs F.2.2.2.2.1 F.2.2.2.2.2 Q (F0 m F.1 ls (.int x :: rest)))
    (h : z_aUn (z_op1 g) β F = some o) (hn : zNx (zWp p l e0 R s m args below meth c Q E J (zm_L M)) PR PC o) : zWp p l e0 R s m args below meth c Q E J (zm_L M) β F := by
  obtain ⟨a, t, hs, h⟩ := z_lc_some h
  obtain ⟨c', hc, h⟩ := z_ob_some h
  cases h
  obtain ⟨i1, i3, i4⟩ := z_op1_ok (ρ := zg_r E) hc
  refine zs_go (fun hok H locs ls hl k => ?_) hn
  rw [hs]
  show W p l e0 R s m args below meth c H locs F.2.2.2.2.1 F.2.2.2.2.2 Q (F0 m F.1 ls (zv E a :: t.map (zv E)))
  rw [show zv E a = _ from z_isI_c i1]
  refine hr H locs ls _ _ ?_
  rw [← i4, ← show zv E c' = _ from z_isI_c i3]
  exact k
theorem zs_i2l (hr : ∀ H locs ls rest x, W p l e0 R s m args below meth c H locs F.2.2.2.2.1 F.2.2.2.2.2 Q (F0 m (F.1 + 1) ls (.long (Int32.toInt64 x) :: rest)) → W p l e0 R s m args below meth c H locs F.2.2.2.2.1 F.2.2.2.2.2 Q (F0 m F.1 ls (.int x :: rest)))
    (h : z_aUn z_i2l β F = some o) (hn : zNx (zWp p l e0 R s m args below meth c Q E J (zm_L M)) PR PC o) : zWp p l e0 R s m args below meth c Q E J (zm_L M) β F := by
  obtain ⟨a, t, hs, h⟩ := z_lc_some h
  obtain ⟨c', hc, h⟩ := z_ob_some h
  cases h
  obtain ⟨x, ex, hc⟩ := z_ob_some hc
  cases hc
  have ex := z_cI_some ex
  subst ex
  refine zs_go (fun hok H locs ls hl k => ?_) hn
  rw [hs]
  exact hr H locs ls _ _ k
theorem zs_Dup (hC : zCtx p R s m args c E M) (hdg : decode (zm_b M) F.1 = .ok (.dup, 1)) (h : z_aDup β F = some o) (hn : zNx (zWp p l e0 R s m args below meth c Q E J (zm_L M)) PR PC o) : zWp p l e0 R s m args below meth c Q E J (zm_L M) β F := by
  obtain ⟨hx, hb, -, -, -, -, hFx, -⟩ := hC
  obtain ⟨a, t, hs, h⟩ := z_lc_some h
  obtain ⟨h1, h⟩ := z_if_some h
  cases h
  refine zs_go (fun hok H locs ls hl k => ?_) hn
  rw [hs]
  exact lv_dup hx hb hdg ((z_cat_c hFx.2.2.2 a).trans (z_beq h1)) k
theorem zs_Dup2 (hC : zCtx p R s m args c E M) (hdg : decode (zm_b M) F.1 = .ok (.dup2, 1)) (h : z_aDup2 β F = some o) (hn : zNx (zWp p l e0 R s m args below meth c Q E J (zm_L M)) PR PC o) : zWp p l e0 R s m args below meth c Q E J (zm_L M) β F := by
  obtain ⟨hx, hb, -, -, -, -, hFx, -⟩ := hC
  obtain ⟨a, s', hs, h⟩ := z_lc_some h
  obtain ⟨b, t, hs', h⟩ := z_lc_some h
  subst hs'
  obtain ⟨h1, h⟩ := z_if_some h
  obtain ⟨h2, h⟩ := z_if_some h
  cases h
  refine zs_go (fun hok H locs ls hl k => ?_) hn
  rw [hs]
  exact lv_dup2_11 hx hb hdg ((z_cat_c hFx.2.2.2 a).trans (z_beq h1)) ((z_cat_c hFx.2.2.2 b).trans (z_beq h2)) k
theorem zs_Pop (hC : zCtx p R s m args c E M) (hdg : decode (zm_b M) F.1 = .ok (.pop, 1)) (h : z_aPop β F = some o) (hn : zNx (zWp p l e0 R s m args below meth c Q E J (zm_L M)) PR PC o) : zWp p l e0 R s m args below meth c Q E J (zm_L M) β F := by
  obtain ⟨hx, hb, -, -, -, -, hFx, -⟩ := hC
  obtain ⟨a, t, hs, h⟩ := z_lc_some h
  obtain ⟨h1, h⟩ := z_if_some h
  cases h
  refine zs_go (fun hok H locs ls hl k => ?_) hn
  rw [hs]
  exact lv_pop hx hb hdg ((z_cat_c hFx.2.2.2 a).trans (z_beq h1)) k
end
