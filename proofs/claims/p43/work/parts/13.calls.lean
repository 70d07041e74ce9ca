/-! returns and calls -/
theorem z_pop_ok : ∀ (np : Nat) (acc st as rest : List zV), z_pop np acc st = some (as, rest) → ∃ l, l.length = np ∧ st = l ++ rest ∧ as = l.reverse ++ acc
  | 0, acc, st, as, rest, h => by
    cases h
    exact ⟨[], rfl, rfl, rfl⟩
  | np + 1, acc, st, as, rest, h => by
    obtain ⟨v, t, hs, h⟩ := z_lc_some (show z_lc st (fun v t => z_pop np (v :: acc) t) = some (as, rest) from h)
    obtain ⟨l, h1, h2, h3⟩ := z_pop_ok np (v :: acc) t as rest h
    refine ⟨v :: l, by rw [List.length_cons, h1], by rw [hs, h2]; rfl, by rw [h3]; simp⟩
theorem zGood {l : List Cond} (h : ∀ w ∈ l, w ∈ z_WS) : GoodIn z_WS l := fun w hw => ⟨h w hw, z_WS_good (h w hw)⟩
theorem zGoodM {Ms : List zM} {N : zM} (h : zMok Ms N) : ∀ w ∈ z_ws N, w ∈ z_WS := by
  intro w hw
  rcases List.mem_cons.mp hw with e | e
  · rw [e]; exact h.2.1
  · exact e
section
variable {p : Program} {l : Launch} {e0 : Env} {R : Room} {s : State} {m : MethodId} {args : Array Value} {below : List Frame} {meth : Method} {c : Code} {Q : State → Prop} {E : zG} {J : (Nat → va_E) → Prop} {M : zM} {Ms : List zM} {PR : zR → Prop} {PC : Nat × List zV × List zV → Prop} {β : zB} {F : zF} {o : zO}
/-- what a call of method c.1 gives: its contract, and the walk behind each of its leaves -/
def zPC (p : Program) (l : Launch) (e0 : Env) (R : Room) (s : State) (m : MethodId) (args : Array Value) (below : List Frame) (meth : Method) (c : Code) (Q : State → Prop) (E : zG) (J : (Nat → va_E) → Prop) (nL : Nat) (Ms : List zM) (β : zB) (F : zF) (q : Nat × List zV × List zV) : Prop :=
  ∃ (N : zM) (lv : zR → Prop) (d : Nat), Ms[q.1]? = some N ∧ (zok (zg_r E) β → zMet l E J d N q.2.1 F.2.2.2.1 lv) ∧ d + 1 ≤ R.frames ∧ 64 * (d + 1) ≤ R.locals ∧
    ∀ r, lv r → zWp p l e0 R s m args below meth c Q E J nL r.1 (Nat.add F.1 3, F.2.1, Option.rec (motive := fun _ => List zV) q.2.2 (fun v => v :: q.2.2) r.2.1, r.2.2, Nat.add F.2.2.2.2.1 (zm_mc N), Nat.add F.2.2.2.2.2 (zm_ms N))
theorem zs_run {G0 : Nat → va_E} {N : zM} {lv : zR → Prop} {H : Heap} {locs : List Loc} {ls : Array Slot} {st0 : List Value} {rest : List zV} {a : Array Value} (hp : zPt E s (zm_L M) G0 F H locs ls)
    (hr : va_Run p l e0 R s m args below meth c H locs F.2.2.2.2.1 F.2.2.2.2.2 (zm_mc N) (zm_ms N) (F0 m F.1 ls st0) (rest.map (zv E)) (zQc E J (zm_mc N) lv a) (zgA E))
    (kk : ∀ r, lv r → zWp p l e0 R s m args below meth c Q E J (zm_L M) r.1 (Nat.add F.1 3, F.2.1, Option.rec (motive := fun _ => List zV) rest (fun v => v :: rest) r.2.1, r.2.2, Nat.add F.2.2.2.2.1 (zm_mc N), Nat.add F.2.2.2.2.2 (zm_ms N))) : W p l e0 R s m args below meth c H locs F.2.2.2.2.1 F.2.2.2.2.2 Q (F0 m F.1 ls st0) := by
  intro T hT X
  obtain ⟨v, st₀, t, T', L, h0, X', hL, e1, e2, ⟨⟨r, hr1, hr2, hr3, G, hJ, hrel⟩, hsz⟩, st⟩ := hr T hT X
  have hv : v = r.2.1.map (zv E) := by
    injection hr3
  have hpt : zPt E s (zm_L M) G (Nat.add F.1 3, F.2.1, Option.rec (motive := fun _ => List zV) rest (fun v => v :: rest) r.2.1, r.2.2, Nat.add F.2.2.2.2.1 (zm_mc N), Nat.add F.2.2.2.2.2 (zm_ms N)) T'.heap (locs ++ L) ls := by
    refine ⟨by rw [e1]; exact hrel, fun q hq => ?_, ?_, hp.2.2.2⟩
    · rcases List.mem_append.mp hq with h | h
      · exact hp.2.1 q h
      · exact hL q h
    · rw [e1, hsz, h0, hp.2.2.1]
      show _ = s.heap.size + (F.2.2.2.2.1 + zm_mc N)
      omega
  obtain ⟨t2, a1, b1⟩ := kk r hr1 hr2 G hJ T'.heap (locs ++ L) ls hpt T' rfl X'
  refine ⟨t2, st t2 ?_, b1⟩
  rw [hv]
  have e : (Option.map (zv E) r.2.1).toList ++ rest.map (zv E) = (Option.rec (motive := fun _ => List zV) rest (fun v => v :: rest) r.2.1 : List zV).map (zv E) := by
    cases r.2.1 <;> rfl
  rw [e]
  exact a1
theorem zs_Inv {kind mi a2 idx : Nat} {N : zM} {i : Instr} (hC : zCtx p R s m args c E M) (hMs : ∀ (k : Nat) (N : zM), Ms[k]? = some N → zMok Ms N) (hi : i = (match kind with | 0 => .invokevirtual idx | 1 => .invokespecial idx | _ => .invokestatic idx)) (hk : kind < 3) (hN : Ms[mi]? = some N) (hl : zMcall Ms (zm_y M).cls kind idx mi a2)
    (hdg : decode (zm_b M) F.1 = .ok (i, 3)) (h : z_aInv kind mi (zm_np N) (zm_mc N) (zm_ms N) (zm_ci N) (zm_mc M) (zm_ms M) β F = some o) (hn : zNx (zWp p l e0 R s m args below meth c Q E J (zm_L M)) PR (zPC p l e0 R s m args below meth c Q E J (zm_L M) Ms β F) o) : zWp p l e0 R s m args below meth c Q E J (zm_L M) β F := by
  obtain ⟨hx, hb, hml, hown, hts, hE, hFx, -, -, hmc, hms, -⟩ := hC
  obtain ⟨N', hN', hlk, hk1, hkd⟩ := hl
  have hNN : N' = N := Option.some.inj (hN'.symm.trans hN)
  subst hNN
  have hok2 := hMs mi N' hN
  obtain ⟨m1, m2, m3, m4, m5, -⟩ := hMs mi N' hN
  obtain ⟨q, hq, h⟩ := z_ob_some h
  obtain ⟨h1, h⟩ := z_if_some h
  obtain ⟨h2, h⟩ := z_if_some h
  obtain ⟨h3, h⟩ := z_if_some h
  have h1 := z_ble h1
  have h2 : F.2.2.2.2.1 + zm_mc N' ≤ zm_mc M := z_ble h2
  have h3 : F.2.2.2.2.2 + zm_ms N' ≤ zm_ms M := z_ble h3
  obtain ⟨lq, hq1, hq2, hq3⟩ := z_pop_ok _ _ _ _ _ (show z_pop (zm_np N') [] F.2.2.1 = some (q.1, q.2) from hq)
  have hq3 : q.1 = lq.reverse := by rw [hq3]; simp
  have hlen : q.1.length = zm_np N' := by rw [hq3, List.length_reverse, hq1]
  have hst : F.2.2.1.map (zv E) = (q.1.map (zv E)).reverse ++ q.2.map (zv E) := by
    rw [hq2, List.map_append, hq3, List.map_reverse, List.reverse_reverse]
  have hf2 : F.2.2.2.2.1 + zm_mc N' ≤ R.cells ∧ F.2.2.2.2.2 + zm_ms N' ≤ R.slots := ⟨Nat.le_trans h2 hmc, Nat.le_trans h3 hms⟩
  have hroom : ((q.2.map (zv E)).map fun v => v.category).sum ≤ 8 := by rw [z_sum_c hFx.2.2.2]; exact h1
  have hgood : GoodIn z_WS (z_ws N') := zGood (zGoodM hok2)
  -- the three kinds
  match kind, hk, hi, hkd, hk1, h with
  | 0, _, hi, hkd, hk1, h =>
    have ha2 := hk1 rfl
    obtain ⟨k1, k2, k3, k4⟩ := hkd
    obtain ⟨o1, as', has, h⟩ := z_lc_some (show z_lc q.1 _ = some o from h)
    obtain ⟨a, ha, h⟩ := z_ob_some h
    have ha := z_cR_some ha
    have hlk : Cond.methodLink (zm_y M).cls idx (zm_y N') ∈ z_WS := by
      revert hlk
      split
      · exact absurd rfl ha2
      · exact fun h => h
    -- the receiver
    have hrec : (∀ G H locs ls, zPt E s (zm_L M) G F H locs ls → ∃ cellB : Cell, H[zg_a E a]? = some cellB ∧ cellB.vm.isStatics = false ∧ s.vm.findClass (zm_y N').cls = some cellB.cls) ∧ o = .inr (.inr (.inr (mi, q))) := by
      have h : z_if (Nat.beq (zm_ci N') 100) _ _ = some o := h
      cases e : Nat.beq (zm_ci N') 100 with
      | true =>
        rw [e] at h
        obtain ⟨e2, h⟩ := z_if_some (show z_if (z_if (Nat.beq a z_STR) true (Nat.beq a z_STR2)) _ none = some o from h)
        rw [if_pos (z_beq e)] at k3
        refine ⟨fun G H locs ls hp => ?_, (Option.some.inj h).symm⟩
        cases e3 : Nat.beq a z_STR with
        | true =>
          rw [z_beq e3, k3]
          obtain ⟨cell, g1, g2, g3, g4⟩ := hE.2.2.2.2.2.2.1
          have hlt : zg_a E z_STR < zg_n E := Nat.not_le.mp g4
          exact ⟨cell, by rw [hp.1.2.2.2 _ hlt]; exact g1, g2, g3⟩
        | false =>
          rw [e3] at e2
          rw [z_beq (show Nat.beq a z_STR2 = true from e2), k3]
          obtain ⟨cell, g1, g2, g3, g4⟩ := hE.2.2.2.2.2.2.2.2.2.2.1.2.1
          have hlt : zg_a E z_STR2 < zg_n E := Nat.not_le.mp g4
          exact ⟨cell, by rw [hp.1.2.2.2 _ hlt]; exact g1, g2, g3⟩
      | false =>
        rw [e] at h
        obtain ⟨ci, fs, hlt, hg, h⟩ := z_obj_some (show z_obj F.2.2.2.1 a _ = some o from h)
        obtain ⟨e2, h⟩ := z_if_some h
        rw [if_neg (z_nbeq e)] at k3
        refine ⟨fun G H locs ls hp => ?_, (Option.some.inj h).symm⟩
        rw [z_beq e2] at hg
        rw [hFx.2.2.1 a (by have := hp.1.2.2.1; omega), k3.2]
        exact va_recv hE.1 hp.1.1 k3.1 (zw_get hlt hg)
    obtain ⟨hrec, rfl⟩ := hrec
    obtain ⟨N2, lv, d, hN2, hmet, hd1, hd2, hkk⟩ := hn
    have hN2 : N2 = N' := Option.some.inj (hN2.symm.trans hN)
    subst hN2
    intro hok G hJ H locs ls hp
    subst hi
    have hnp : zm_np N2 = as'.length + 1 := by rw [← hlen, has]; rfl
    have hrun := va_runV (e := e0) (As := as'.map (zv E)) (rest := q.2.map (zv E)) (n := as'.length) (b := zg_a E a) (C := (zm_y N2).cls) (g := F0 m F.1 ls (F.2.2.1.map (zv E))) (locs := locs) (H := H) (cells := F.2.2.2.2.1) (slots := F.2.2.2.2.2) (meth := meth) (below := below) ⟨hx, hb, hml, hown, hts⟩ (hmet hok)
      (cwV (bytes := zm_b N2) (maxL := zm_L N2) (ret := zm_r N2) as'.length hts (zGood (fun w hw => by
        rcases List.mem_append.mp (show w ∈ ([.methodLink (zm_y M).cls idx (zm_y N2), .instanceMethod (zm_y N2), .selects (zm_y N2).cls (zm_y N2) (zm_y N2), .initialized (zm_y N2).cls] : List Cond) ++ z_ws N2 from hw) with h | h
        · simp only [List.mem_cons, List.not_mem_nil, or_false] at h
          rcases h with rfl | rfl | rfl | rfl
          · exact hlk
          · exact k1
          · exact k2
          · exact m3
        · exact zGoodM hok2 w h)) rfl rfl rfl ⟨rfl, m4.1, m4.2, by
          cases e : parseMethodDescriptor (zm_y N2).desc with
          | none => rw [e] at k4; cases k4
          | some sg => rw [e, hnp] at k4; simp at k4 ⊢; exact k4⟩ ⟨hd1, by show 8 + (zm_L N2 + 11) + 64 * d ≤ R.locals; omega⟩)
      ⟨zPc_blind, hrec G H locs ls hp, fun U hU hW => ⟨by rw [has, ha]; rfl, ⟨G, hJ, by rw [hU]; exact hp.1⟩, hE.warm hW⟩⟩ rfl (by simp) hp.2.2.2.1 (by
        show F.2.2.1.map (zv E) = _
        rw [hst, has, ha]; simp; rfl) (lv_room hroom) hdg hf2
    exact zs_run hp hrun hkk
  | 1, _, hi, hkd, _, h =>
    obtain ⟨k1, k2, k3, k4⟩ := hkd
    obtain ⟨o1, as', has, h⟩ := z_lc_some (show z_lc q.1 _ = some o from h)
    obtain ⟨a, ha, h⟩ := z_ob_some h
    have ha := z_cR_some ha
    cases h
    obtain ⟨N2, lv, d, hN2, hmet, hd1, hd2, hkk⟩ := hn
    have hN2 : N2 = N' := Option.some.inj (hN2.symm.trans hN)
    subst hN2
    intro hok G hJ H locs ls hp
    subst hi
    have hnp : zm_np N2 = as'.length + 1 := by rw [← hlen, has]; rfl
    have hpar : (parseMethodDescriptor (zm_y N2).desc).map (fun d => d.parameters.length) = some as'.length := by
      cases e : parseMethodDescriptor (zm_y N2).desc with
      | none => rw [e] at k4; cases k4
      | some sg => rw [e, hnp] at k4; simp at k4 ⊢; exact k4
    have hR2 : (z_rm d N2).frames + 1 ≤ R.frames ∧ 8 + (zm_L N2 + 11) + (z_rm d N2).locals ≤ R.locals := ⟨hd1, by show 8 + (zm_L N2 + 11) + 64 * d ≤ R.locals; omega⟩
    have hws : z_ws N2 = Cond.code (zm_y N2) (zm_b N2) (zm_L N2) none :: z_WS := by unfold z_ws; rw [k3]
    have hpre : PreS s H (zPc E J q.1 F.2.2.2.1) (.ref (zg_a E a) :: as'.map (zv E)) := ⟨zPc_blind, fun U hU hW => ⟨by rw [has, ha]; rfl, ⟨G, hJ, by rw [hU]; exact hp.1⟩, hE.warm hW⟩⟩
    have hstk : (F0 m F.1 ls (F.2.2.1.map (zv E))).stack = (as'.map (zv E)).reverse ++ .ref (zg_a E a) :: q.2.map (zv E) := by
      show F.2.2.1.map (zv E) = _
      rw [hst, has, ha]; simp; rfl
    revert hlk
    split
    · intro hlk
      have hrun := va_runIN (e := e0) (As := as'.map (zv E)) (rest := q.2.map (zv E)) (n := as'.length) (b := zg_a E a) (g := F0 m F.1 ls (F.2.2.1.map (zv E))) (locs := locs) (H := H) (cells := F.2.2.2.2.1) (slots := F.2.2.2.2.2) (meth := meth) (below := below) (args := args) (s := s) (Ts := z_WS) ⟨hx, hb, hml, hown, hts⟩ (hmet hok)
        ⟨va_cnB (host := "FarBank") (bytes := zm_b N2) (maxL := zm_L N2) (ret := none) as'.length hts hgood hws rfl rfl (hE.2.1 _ hlk) (hts _ m3) ⟨m4.1, m4.2, hpar⟩ hR2, k2, hts _ k1⟩ hpre rfl (by simp) hp.2.2.2.1 hstk (lv_room hroom) hdg hf2
      exact zs_run hp hrun hkk
    · intro hlk
      have hrun := va_runI (e := e0) (As := as'.map (zv E)) (rest := q.2.map (zv E)) (n := as'.length) (b := zg_a E a) (g := F0 m F.1 ls (F.2.2.1.map (zv E))) (locs := locs) (H := H) (cells := F.2.2.2.2.1) (slots := F.2.2.2.2.2) (meth := meth) (below := below) (args := args) (s := s) (Ts := z_WS) ⟨hx, hb, hml, hown, hts⟩ (hmet hok)
        (cwI (bytes := zm_b N2) (maxL := zm_L N2) as'.length hts hgood hws rfl rfl (hts _ m3) (hts _ hlk) (hts _ k1) k2 ⟨m4.1, m4.2, hpar⟩ hR2) hpre rfl (by simp) hp.2.2.2.1 hstk (lv_room hroom) hdg hf2
      exact zs_run hp hrun hkk
  | 2, _, hi, hkd, _, h =>
    obtain ⟨k1, k4⟩ := hkd
    have h : some (Sum.inr (Sum.inr (Sum.inr (mi, q)))) = some o := h
    cases h
    obtain ⟨N2, lv, d, hN2, hmet, hd1, hd2, hkk⟩ := hn
    have hN2 : N2 = N' := Option.some.inj (hN2.symm.trans hN)
    subst hN2
    intro hok G hJ H locs ls hp
    subst hi
    have hpar : (parseMethodDescriptor (zm_y N2).desc).map (fun d => d.parameters.length) = some q.1.length := by rw [hlen]; exact k4
    have hR2 : (z_rm d N2).frames + 1 ≤ R.frames ∧ 8 + (zm_L N2 + 11) + (z_rm d N2).locals ≤ R.locals := ⟨hd1, by show 8 + (zm_L N2 + 11) + 64 * d ≤ R.locals; omega⟩
    have hpre : PreS s H (zPc E J q.1 F.2.2.2.1) (q.1.map (zv E)) := ⟨zPc_blind, fun U hU hW => ⟨rfl, ⟨G, hJ, by rw [hU]; exact hp.1⟩, hE.warm hW⟩⟩
    revert hlk
    split
    · intro hlk
      have hrun := va_runSN (e := e0) (As := q.1.map (zv E)) (rest := q.2.map (zv E)) (n := q.1.length) (g := F0 m F.1 ls (F.2.2.1.map (zv E))) (locs := locs) (H := H) (cells := F.2.2.2.2.1) (slots := F.2.2.2.2.2) (meth := meth) (below := below) (args := args) (s := s) (Ts := z_WS) ⟨hx, hb, hml, hown, hts⟩ (hmet hok)
        ⟨va_cnB (host := "FarBank") (bytes := zm_b N2) (maxL := zm_L N2) (ret := zm_r N2) q.1.length hts hgood rfl rfl rfl (hE.2.1 _ hlk) (hts _ m3) ⟨m4.1, m4.2, hpar⟩ hR2, hts _ k1, trivial⟩ hpre rfl (by simp) hp.2.2.2.1 hst (lv_room hroom) hdg hf2
      exact zs_run hp hrun hkk
    · intro hlk
      have hrun := va_runS (e := e0) (As := q.1.map (zv E)) (rest := q.2.map (zv E)) (n := q.1.length) (g := F0 m F.1 ls (F.2.2.1.map (zv E))) (locs := locs) (H := H) (cells := F.2.2.2.2.1) (slots := F.2.2.2.2.2) (meth := meth) (below := below) (args := args) (s := s) (Ts := z_WS) ⟨hx, hb, hml, hown, hts⟩ (hmet hok)
        ⟨callB_of (bytes := zm_b N2) (maxL := zm_L N2) (ret := zm_r N2) q.1.length hts hgood rfl rfl rfl (hts _ m3) (hts _ hlk) ⟨m4.1, m4.2, hpar⟩ hR2, hts _ k1⟩ hpre rfl (by simp) hp.2.2.2.1 hst (lv_room hroom) hdg hf2
      exact zs_run hp hrun hkk
  | n + 3, hk, _, _, _, _ => exact absurd hk (by omega)
theorem zs_Obj {idx : Nat} (hC : zCtx p R s m args c E M) (hcm : zComOk) (hl : Cond.methodLink (zm_y M).cls idx Lib.objectInit ∈ z_WS) (hdg : decode (zm_b M) F.1 = .ok (.invokespecial idx, 3)) (h : z_aObj β F = some o) (hn : zNx (zWp p l e0 R s m args below meth c Q E J (zm_L M)) PR PC o) : zWp p l e0 R s m args below meth c Q E J (zm_L M) β F := by
  obtain ⟨hx, hb, hml, hown, hts, hE, hFx, -, -, hmc, hms, hfr, hlc⟩ := hC
  obtain ⟨o1, t, hs, h⟩ := z_lc_some h
  obtain ⟨a, ha, h⟩ := z_ob_some h
  rw [z_cR_some ha] at hs
  obtain ⟨h1, h⟩ := z_if_some h
  cases h
  refine zs_go (fun hok H locs ls hlv k => ?_) hn
  rw [hs]
  refine W.objInit hx hb hown (hts _ hl) (hts _ hcm.1) (hts _ hcm.2.1) (a := zg_a E a) (rest := t.map (zv E)) rfl (by rw [hml]; exact hlv.1) rfl hdg hfr ?_ k
  have e : ((t.map (zv E)).map fun v => v.category).sum ≤ 8 := by rw [z_sum_c hFx.2.2.2]; exact z_ble h1
  show 2 * 0 + _ + 12 ≤ R.locals
  omega
theorem zs_M2 {idx : Nat} {f : Int32 → Int32 → Int32} (hC : zCtx p R s m args c E M)
    (hr : ∀ H locs ls rest x y, ls.size = zm_L M → (rest.map fun v => v.category).sum ≤ 8 → F.2.2.2.2.1 ≤ R.cells → F.2.2.2.2.2 ≤ R.slots → W p l e0 R s m args below meth c H locs F.2.2.2.2.1 F.2.2.2.2.2 Q (F0 m (F.1 + 3) ls (.int (f x y) :: rest)) → W p l e0 R s m args below meth c H locs F.2.2.2.2.1 F.2.2.2.2.2 Q (F0 m F.1 ls (.int y :: .int x :: rest)))
    (h : z_aM2 f (zm_mc M) (zm_ms M) β F = some o) (hn : zNx (zWp p l e0 R s m args below meth c Q E J (zm_L M)) PR PC o) : zWp p l e0 R s m args below meth c Q E J (zm_L M) β F := by
  obtain ⟨hx, hb, hml, hown, hts, hE, hFx, -, -, hmc, hms, hfr, hlc⟩ := hC
  obtain ⟨b, s', hs, h⟩ := z_lc_some h
  obtain ⟨a, t, hs', h⟩ := z_lc_some h
  rw [hs'] at hs
  obtain ⟨c', hc, h⟩ := z_ob_some h
  obtain ⟨h1, h⟩ := z_if_some h
  obtain ⟨h2, h⟩ := z_if_some h
  obtain ⟨h3, h⟩ := z_if_some h
  cases h
  obtain ⟨i1, i2, i3, i4⟩ := z_op2_ok (ρ := zg_r E) hc
  refine zs_go (fun hok H locs ls hlv k => ?_) hn
  rw [hs]
  show W p l e0 R s m args below meth c H locs F.2.2.2.2.1 F.2.2.2.2.2 Q (F0 m F.1 ls (zv E b :: zv E a :: t.map (zv E)))
  rw [show zv E a = _ from z_isI_c i1, show zv E b = _ from z_isI_c i2]
  refine hr H locs ls _ _ _ hlv.1 (by rw [z_sum_c hFx.2.2.2]; exact z_ble h1) (Nat.le_trans (z_ble h2) hmc) (Nat.le_trans (z_ble h3) hms) ?_
  rw [← i4, ← show zv E c' = _ from z_isI_c i3]
  exact k
theorem zs_M1 {idx : Nat} {f : Int32 → Int32} (hC : zCtx p R s m args c E M)
    (hr : ∀ H locs ls rest x, ls.size = zm_L M → (rest.map fun v => v.category).sum ≤ 8 → F.2.2.2.2.1 ≤ R.cells → F.2.2.2.2.2 ≤ R.slots → W p l e0 R s m args below meth c H locs F.2.2.2.2.1 F.2.2.2.2.2 Q (F0 m (F.1 + 3) ls (.int (f x) :: rest)) → W p l e0 R s m args below meth c H locs F.2.2.2.2.1 F.2.2.2.2.2 Q (F0 m F.1 ls (.int x :: rest)))
    (h : z_aM1 f (zm_mc M) (zm_ms M) β F = some o) (hn : zNx (zWp p l e0 R s m args below meth c Q E J (zm_L M)) PR PC o) : zWp p l e0 R s m args below meth c Q E J (zm_L M) β F := by
  obtain ⟨hx, hb, hml, hown, hts, hE, hFx, -, -, hmc, hms, hfr, hlc⟩ := hC
  obtain ⟨a, t, hs, h⟩ := z_lc_some h
  obtain ⟨c', hc, h⟩ := z_ob_some h
  obtain ⟨h1, h⟩ := z_if_some h
  obtain ⟨h2, h⟩ := z_if_some h
  obtain ⟨h3, h⟩ := z_if_some h
  cases h
  obtain ⟨i1, i3, i4⟩ := z_op1_ok (ρ := zg_r E) hc
  refine zs_go (fun hok H locs ls hlv k => ?_) hn
  rw [hs]
  show W p l e0 R s m args below meth c H locs F.2.2.2.2.1 F.2.2.2.2.2 Q (F0 m F.1 ls (zv E a :: t.map (zv E)))
  rw [show zv E a = _ from z_isI_c i1]
  refine hr H locs ls _ _ hlv.1 (by rw [z_sum_c hFx.2.2.2]; exact z_ble h1) (Nat.le_trans (z_ble h2) hmc) (Nat.le_trans (z_ble h3) hms) ?_
  rw [← i4, ← show zv E c' = _ from z_isI_c i3]
  exact k
end
