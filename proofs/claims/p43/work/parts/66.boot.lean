/-! a run that never looks at the script is the same for every script; the two new objects -/
noncomputable def z_nS (v : zV) : Bool := Option.rec (motive := fun _ => Bool) true (fun k => q_not (Nat.beq k z_SCR)) (z_cR v)
noncomputable def z_noS (st : List zV) : Bool := List.rec (motive := fun _ => Bool) true (fun a t _ => q_and (z_nS a) (List.rec (motive := fun _ => Bool) true (fun b _ _ => z_nS b) t)) st
theorem z_nS_ok {o : zV} {a : Nat} (h : z_nS o = true) (hr : z_cR o = some a) : Nat.beq a z_SCR = false := by
  unfold z_nS at h
  rw [hr] at h
  exact q_not_iff.mp h
theorem z_act_S {S S' : Nat → Int32} {Ms : List zM} {M : zM} {e : zE} {β : zB} {F : zF} (h : z_noS F.2.2.1 = true) : z_act S Ms M e β F = z_act S' Ms M e β F := by
  obtain ⟨pc, cls, st, X, c⟩ := F
  obtain ⟨p, i, len, a1, a2⟩ := e
  cases i
  case arraylength =>
    cases st with
    | nil => rfl
    | cons o t =>
      obtain ⟨h1, _⟩ := q_and_iff.mp (show q_and (z_nS o) _ = true from h)
      show z_ob (z_cR o) (fun a => z_if (Nat.beq a z_SCR) (z_go β (pc, cls, o :: t, X, c) 1 (.inl (.int (S 3072)) :: t)) (z_if (Nat.beq a z_STV) (z_go β (pc, cls, o :: t, X, c) 1 (.inl (.int 106) :: t)) (z_if (Nat.beq a z_STV2) (z_go β (pc, cls, o :: t, X, c) 1 (.inl (.int 11) :: t)) (z_arr X a fun ty len _ => z_if (Nat.blt ty 5) (z_go β (pc, cls, o :: t, X, c) 1 (.inl (.int (Int32.ofNat len)) :: t)) none)))) = z_ob (z_cR o) (fun a => z_if (Nat.beq a z_SCR) (z_go β (pc, cls, o :: t, X, c) 1 (.inl (.int (S' 3072)) :: t)) (z_if (Nat.beq a z_STV) (z_go β (pc, cls, o :: t, X, c) 1 (.inl (.int 106) :: t)) (z_if (Nat.beq a z_STV2) (z_go β (pc, cls, o :: t, X, c) 1 (.inl (.int 11) :: t)) (z_arr X a fun ty len _ => z_if (Nat.blt ty 5) (z_go β (pc, cls, o :: t, X, c) 1 (.inl (.int (Int32.ofNat len)) :: t)) none))))
      cases hr : z_cR o with
      | none => rfl
      | some a =>
        show z_if (Nat.beq a z_SCR) _ _ = z_if (Nat.beq a z_SCR) _ _
        rw [z_nS_ok h1 hr]
  case iaload =>
    cases st with
    | nil => rfl
    | cons w s =>
      cases s with
      | nil => rfl
      | cons o t =>
        obtain ⟨_, h1⟩ := q_and_iff.mp (show q_and (z_nS w) (z_nS o) = true from h)
        show z_want w β (pc, cls, w :: o :: t, X, c) (fun v => z_ob (z_cI v) fun i => z_ob (z_cR o) fun a => z_if (Nat.beq a z_SCR) (z_if (z_in i (S 3072).toBitVec.toNat) (z_go β (pc, cls, w :: o :: t, X, c) 1 (.inl (.int (S i.toBitVec.toNat)) :: t)) none) (z_ld 0 0 z_isI i a t β (pc, cls, w :: o :: t, X, c))) = z_want w β (pc, cls, w :: o :: t, X, c) (fun v => z_ob (z_cI v) fun i => z_ob (z_cR o) fun a => z_if (Nat.beq a z_SCR) (z_if (z_in i (S' 3072).toBitVec.toNat) (z_go β (pc, cls, w :: o :: t, X, c) 1 (.inl (.int (S' i.toBitVec.toNat)) :: t)) none) (z_ld 0 0 z_isI i a t β (pc, cls, w :: o :: t, X, c)))
        congr 1
        funext v
        cases z_cI v with
        | none => rfl
        | some i =>
          cases hr : z_cR o with
          | none => rfl
          | some a =>
            show z_if (Nat.beq a z_SCR) _ _ = z_if (Nat.beq a z_SCR) _ _
            rw [z_nS_ok h1 hr]
  all_goals rfl
noncomputable def z_gd (p : Unit × zA) : zA := fun β F => z_if (z_noS F.2.2.1) (p.2 β F) none
noncomputable def z_cN (Ms : List zM) (M : zM) (e : zE) : zX := (e.1, ((), z_gd ((), z_act (fun _ => 0) Ms M e)))
noncomputable def z_cS (S : Nat → Int32) (Ms : List zM) (M : zM) (e : zE) : zX := (e.1, ((), z_act S Ms M e))
noncomputable def z_findE (pc : Nat) (l : List zE) : Option (zE × List zE) := List.rec (motive := fun _ => Option (zE × List zE)) none (fun e t ih => z_if (Nat.beq (Prod.fst e) pc) (some (e, t)) ih) l
noncomputable def z_fetchE (pc : Nat) (cs full : List zE) : Option (zE × List zE) := List.rec (motive := fun _ => Option (zE × List zE)) (z_findE pc full) (fun e t _ => z_if (Nat.beq (Prod.fst e) pc) (some (e, t)) (z_findE pc full)) cs
theorem z_find_map {c : zE → zX} (hc : ∀ e, (c e).1 = e.1) (pc : Nat) (l : List zE) : z_find pc (l.map c) = (z_findE pc l).map (fun q => (c q.1, q.2.map c)) := by
  induction l with
  | nil => rfl
  | cons e t ih =>
    show z_if (Nat.beq (c e).1 pc) (some (c e, t.map c)) (z_find pc (t.map c)) = (z_if (Nat.beq e.1 pc) (some (e, t)) (z_findE pc t)).map (fun q => (c q.1, q.2.map c))
    rw [hc e, ih]
    cases Nat.beq e.1 pc <;> rfl
theorem z_fetch_map {c : zE → zX} (hc : ∀ e, (c e).1 = e.1) (pc : Nat) (cs full : List zE) : z_fetch pc (cs.map c) (full.map c) = (z_fetchE pc cs full).map (fun q => (c q.1, q.2.map c)) := by
  cases cs with
  | nil => exact z_find_map hc pc full
  | cons e t =>
    show z_if (Nat.beq (c e).1 pc) (some (c e, t.map c)) (z_find pc (full.map c)) = (z_if (Nat.beq e.1 pc) (some (e, t)) (z_findE pc full)).map (fun q => (c q.1, q.2.map c))
    rw [hc e, z_find_map hc]
    cases Nat.beq e.1 pc <;> rfl
theorem z_run_N {S : Nat → Int32} {Ms : List zM} {M : zM} {call callN : zCall} (hcall : ∀ mi as H β lv, callN mi as H β = some lv → call mi as H β = some lv) (l0 : List zE) : ∀ (f : Nat) (ws : List (zB × zF × List zE)) (acc lv : List zR), z_run Ms callN (l0.map (z_cN Ms M)) f (ws.map fun j => (j.1, j.2.1, j.2.2.map (z_cN Ms M))) acc = some lv → z_run Ms call (l0.map (z_cS S Ms M)) f (ws.map fun j => (j.1, j.2.1, j.2.2.map (z_cS S Ms M))) acc = some lv := by
  intro f
  induction f with
  | zero => intro ws acc lv h; cases h
  | succ f ih =>
    intro ws acc lv h
    cases ws with
    | nil => exact h
    | cons j w =>
      obtain ⟨β, F, l⟩ := j
      have h : z_ob (z_fetch F.1 (l.map (z_cN Ms M)) (l0.map (z_cN Ms M))) (fun q => z_ob (q.1.2.2 β F) fun o =>
        Sum.rec (motive := fun _ => Option (List zR)) (fun s => z_run Ms callN (l0.map (z_cN Ms M)) f ((s.1, s.2, q.2) :: w.map fun j => (j.1, j.2.1, j.2.2.map (z_cN Ms M))) acc)
          (fun o => Sum.rec (motive := fun _ => Option (List zR)) (fun ss => z_run Ms callN (l0.map (z_cN Ms M)) f (z_cat2 (ss.map fun s => (s.1, s.2, q.2)) (w.map fun j => (j.1, j.2.1, j.2.2.map (z_cN Ms M)))) acc)
            (fun o => Sum.rec (motive := fun _ => Option (List zR)) (fun r => z_run Ms callN (l0.map (z_cN Ms M)) f (w.map fun j => (j.1, j.2.1, j.2.2.map (z_cN Ms M))) (r :: acc))
              (fun c => z_ob (Ms[c.1]?) fun N => z_ob (callN c.1 c.2.1 F.2.2.2.1 β) fun lv =>
                z_run Ms callN (l0.map (z_cN Ms M)) f (z_cat2 (lv.map fun r => (r.1, (Nat.add F.1 3, F.2.1, Option.rec (motive := fun _ => List zV) c.2.2 (fun v => v :: c.2.2) r.2.1, r.2.2, Nat.add F.2.2.2.2.1 (zm_mc N), Nat.add F.2.2.2.2.2 (zm_ms N)), q.2)) (w.map fun j => (j.1, j.2.1, j.2.2.map (z_cN Ms M)))) acc) o) o) o) = some lv := h
      show z_ob (z_fetch F.1 (l.map (z_cS S Ms M)) (l0.map (z_cS S Ms M))) (fun q => z_ob (q.1.2.2 β F) fun o =>
        Sum.rec (motive := fun _ => Option (List zR)) (fun s => z_run Ms call (l0.map (z_cS S Ms M)) f ((s.1, s.2, q.2) :: w.map fun j => (j.1, j.2.1, j.2.2.map (z_cS S Ms M))) acc)
          (fun o => Sum.rec (motive := fun _ => Option (List zR)) (fun ss => z_run Ms call (l0.map (z_cS S Ms M)) f (z_cat2 (ss.map fun s => (s.1, s.2, q.2)) (w.map fun j => (j.1, j.2.1, j.2.2.map (z_cS S Ms M)))) acc)
            (fun o => Sum.rec (motive := fun _ => Option (List zR)) (fun r => z_run Ms call (l0.map (z_cS S Ms M)) f (w.map fun j => (j.1, j.2.1, j.2.2.map (z_cS S Ms M))) (r :: acc))
              (fun c => z_ob (Ms[c.1]?) fun N => z_ob (call c.1 c.2.1 F.2.2.2.1 β) fun lv =>
                z_run Ms call (l0.map (z_cS S Ms M)) f (z_cat2 (lv.map fun r => (r.1, (Nat.add F.1 3, F.2.1, Option.rec (motive := fun _ => List zV) c.2.2 (fun v => v :: c.2.2) r.2.1, r.2.2, Nat.add F.2.2.2.2.1 (zm_mc N), Nat.add F.2.2.2.2.2 (zm_ms N)), q.2)) (w.map fun j => (j.1, j.2.1, j.2.2.map (z_cS S Ms M)))) acc) o) o) o) = some lv
      rw [z_fetch_map (fun _ => rfl)] at h
      rw [z_fetch_map (fun _ => rfl)]
      cases hf : z_fetchE F.1 l l0 with
      | none => rw [hf] at h; cases h
      | some q =>
        rw [hf] at h
        obtain ⟨q', hq', h⟩ := z_ob_some h
        have hq' : (z_cN Ms M q.1, q.2.map (z_cN Ms M)) = q' := Option.some.inj hq'
        subst hq'
        obtain ⟨o, ho, h⟩ := z_ob_some h
        have ho : z_if (z_noS F.2.2.1) (z_act (fun _ => 0) Ms M q.1 β F) none = some o := ho
        obtain ⟨h1, ho⟩ := z_if_some ho
        show z_ob (z_act S Ms M q.1 β F) _ = some lv
        rw [z_act_S (S' := fun _ => 0) h1, ho]
        rcases o with s | ss | r | c
        · exact ih ((s.1, s.2, q.2) :: w) acc lv h
        · have e1 : ∀ c : zE → zX, z_cat2 (ss.map fun s => (s.1, s.2, q.2.map c)) (w.map fun j => (j.1, j.2.1, j.2.2.map c)) = ((ss.map fun s => (s.1, s.2, q.2)) ++ w).map fun j => (j.1, j.2.1, j.2.2.map c) := fun c => by
            rw [q_cat2_eq, List.map_append, List.map_map]
            rfl
          have h : z_run Ms callN (l0.map (z_cN Ms M)) f (z_cat2 (ss.map fun s => (s.1, s.2, q.2.map (z_cN Ms M))) (w.map fun j => (j.1, j.2.1, j.2.2.map (z_cN Ms M)))) acc = some lv := h
          show z_run Ms call (l0.map (z_cS S Ms M)) f (z_cat2 (ss.map fun s => (s.1, s.2, q.2.map (z_cS S Ms M))) (w.map fun j => (j.1, j.2.1, j.2.2.map (z_cS S Ms M)))) acc = some lv
          rw [e1] at h ⊢
          exact ih _ acc lv h
        · exact ih w (r :: acc) lv h
        · obtain ⟨N, hN, h⟩ := z_ob_some h
          obtain ⟨lv', hl, h⟩ := z_ob_some h
          show z_ob (Ms[c.1]?) _ = some lv
          rw [hN]
          show z_ob (call c.1 c.2.1 F.2.2.2.1 β) _ = some lv
          rw [hcall _ _ _ _ _ hl]
          have e1 : ∀ cc : zE → zX, z_cat2 (lv'.map fun r => (r.1, (Nat.add F.1 3, F.2.1, Option.rec (motive := fun _ => List zV) c.2.2 (fun v => v :: c.2.2) r.2.1, r.2.2, Nat.add F.2.2.2.2.1 (zm_mc N), Nat.add F.2.2.2.2.2 (zm_ms N)), q.2.map cc)) (w.map fun j => (j.1, j.2.1, j.2.2.map cc)) = ((lv'.map fun r => (r.1, (Nat.add F.1 3, F.2.1, Option.rec (motive := fun _ => List zV) c.2.2 (fun v => v :: c.2.2) r.2.1, r.2.2, Nat.add F.2.2.2.2.1 (zm_mc N), Nat.add F.2.2.2.2.2 (zm_ms N)), q.2)) ++ w).map fun j => (j.1, j.2.1, j.2.2.map cc) := fun cc => by
            rw [q_cat2_eq, List.map_append, List.map_map]
            rfl
          have h : z_run Ms callN (l0.map (z_cN Ms M)) f (z_cat2 (lv'.map fun r => (r.1, (Nat.add F.1 3, F.2.1, Option.rec (motive := fun _ => List zV) c.2.2 (fun v => v :: c.2.2) r.2.1, r.2.2, Nat.add F.2.2.2.2.1 (zm_mc N), Nat.add F.2.2.2.2.2 (zm_ms N)), q.2.map (z_cN Ms M))) (w.map fun j => (j.1, j.2.1, j.2.2.map (z_cN Ms M)))) acc = some lv := h
          show z_run Ms call (l0.map (z_cS S Ms M)) f (z_cat2 (lv'.map fun r => (r.1, (Nat.add F.1 3, F.2.1, Option.rec (motive := fun _ => List zV) c.2.2 (fun v => v :: c.2.2) r.2.1, r.2.2, Nat.add F.2.2.2.2.1 (zm_mc N), Nat.add F.2.2.2.2.2 (zm_ms N)), q.2.map (z_cS S Ms M))) (w.map fun j => (j.1, j.2.1, j.2.2.map (z_cS S Ms M)))) acc = some lv
          rw [e1] at h ⊢
          exact ih _ acc lv h
noncomputable def z_callN (Ms : List zM) (d : Nat) : zCall := Nat.rec (motive := fun _ => zCall) (fun _ _ _ _ => none)
  (fun _ ih mi as H β => z_ob (Ms[mi]?) fun M => z_if (Nat.ble (z_sum as) (zm_L M)) (z_run Ms ih ((zm_c M).map (z_cN Ms M)) 100000 [(β, (0, z_ent as 0, [], H, 0, 0), (zm_c M).map (z_cN Ms M))] []) none) d
theorem z_call_N {S : Nat → Int32} {Ms : List zM} (d : Nat) : ∀ (mi : Nat) (as : List zV) (H : zH) (β : zB) (lv : List zR), z_callN Ms d mi as H β = some lv → z_call S Ms d mi as H β = some lv := by
  induction d with
  | zero => intro mi as H β lv h; cases h
  | succ d ih =>
    intro mi as H β lv h
    obtain ⟨M, hM, h⟩ := z_ob_some (show z_ob (Ms[mi]?) (fun M => z_if (Nat.ble (z_sum as) (zm_L M)) (z_run Ms (z_callN Ms d) ((zm_c M).map (z_cN Ms M)) 100000 [(β, (0, z_ent as 0, [], H, 0, 0), (zm_c M).map (z_cN Ms M))] []) none) = some lv from h)
    obtain ⟨h1, h⟩ := z_if_some h
    show z_ob (Ms[mi]?) (fun M => z_if (Nat.ble (z_sum as) (zm_L M)) (z_run Ms (z_call S Ms d) (z_code S Ms M) 100000 [(β, (0, z_ent as 0, [], H, 0, 0), z_code S Ms M)] []) none) = some lv
    rw [hM]
    show z_if (Nat.ble (z_sum as) (zm_L M)) (z_run Ms (z_call S Ms d) (z_code S Ms M) 100000 [(β, (0, z_ent as 0, [], H, 0, 0), z_code S Ms M)] []) none = some lv
    rw [h1]
    exact z_run_N (S := S) ih (zm_c M) 100000 [(β, (0, z_ent as 0, [], H, 0, 0), zm_c M)] [] lv h
