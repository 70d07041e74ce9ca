/-! the run, the call -/
theorem z_cat2_eq {α : Type} : ∀ (a b : List α), z_cat2 a b = a ++ b
  | [], _ => rfl
  | x :: a, b => by
    show x :: z_cat2 a b = _
    rw [z_cat2_eq a b]; rfl
theorem z_find_ok {pc : Nat} : ∀ {cs : List zX} {q : zX × List zX}, z_find pc cs = some q → q.1.1 = pc ∧ q.1 ∈ cs ∧ ∀ x ∈ q.2, x ∈ cs
  | [], _, h => by cases h
  | e :: t, q, h => by
    have h : z_if (Nat.beq e.1 pc) (some (e, t)) (z_find pc t) = some q := h
    cases e1 : Nat.beq e.1 pc with
    | true =>
      rw [e1] at h
      cases h
      exact ⟨z_beq e1, List.mem_cons_self, fun x hx => List.mem_cons_of_mem _ hx⟩
    | false =>
      rw [e1] at h
      obtain ⟨a, b, c⟩ := z_find_ok h
      exact ⟨a, List.mem_cons_of_mem _ b, fun x hx => List.mem_cons_of_mem _ (c x hx)⟩
theorem z_fetch_ok {pc : Nat} {cs full : List zX} {q : zX × List zX} (hc : ∀ x ∈ cs, x ∈ full) (h : z_fetch pc cs full = some q) : q.1.1 = pc ∧ q.1 ∈ full ∧ ∀ x ∈ q.2, x ∈ full := by
  cases cs with
  | nil => exact z_find_ok h
  | cons e t =>
    have h : z_if (Nat.beq e.1 pc) (some (e, t)) (z_find pc full) = some q := h
    cases e1 : Nat.beq e.1 pc with
    | true =>
      rw [e1] at h
      cases h
      exact ⟨z_beq e1, hc _ List.mem_cons_self, fun x hx => hc x (List.mem_cons_of_mem _ hx)⟩
    | false =>
      rw [e1] at h
      exact z_find_ok h
theorem z_ent_ok {E : zG} (hf : (zg_f E).category = 1) : ∀ (as : List zV) (k : Nat), (z_ent as k).map (fun q => (q.1, zv E q.2)) = lv_args k (as.map (zv E))
  | [], _ => rfl
  | v :: t, k => by
    show (k, zv E v) :: (z_ent t (k + z_cat v)).map (fun q => (q.1, zv E q.2)) = (k, zv E v) :: lv_args (if (zv E v).category = 2 then k + 2 else k + 1) (t.map (zv E))
    rw [z_ent_ok hf t]
    have hc : (zv E v).category = z_cat v := z_cat_c hf v
    rcases lv_cat (zv E v) with e | e
    · rw [← hc, e]; simp
    · rw [← hc, e]; simp
theorem z_sl_len {E : zG} (hf : (zg_f E).category = 1) : ∀ (as : List zV), (lg_sl (as.map (zv E))).length = z_sum as
  | [] => rfl
  | v :: t => by
    show (List.flatMap _ (zv E v :: t.map (zv E))).length = z_cat v + z_sum t
    have ih := z_sl_len hf t
    rw [List.flatMap_cons, List.length_append, ← ih]
    have hc : (zv E v).category = z_cat v := z_cat_c hf v
    have e2 : (if (zv E v).category = 2 then [Slot.val (zv E v), Slot.second] else [Slot.val (zv E v)]).length = z_cat v := by
      rw [← hc]
      rcases lv_cat (zv E v) with e | e <;> rw [e] <;> rfl
    rw [e2]
    rfl
section
variable {p : Program} {l : Launch} {e0 : Env} {R : Room} {s : State} {m : MethodId} {args : Array Value} {below : List Frame} {meth : Method} {c : Code} {Q : State → Prop} {E : zG} {J : (Nat → va_E) → Prop} {M : zM} {Ms : List zM} {PR : zR → Prop} {PC : Nat × List zV × List zV → Prop} {β : zB} {F : zF} {o : zO}
theorem zs_runs {out : List zR} {call : zCall} {d : Nat} (hC : zCtx p R s m args c E M) (hcl : zClsOk) (hcm : zComOk) (hMs : ∀ (k : Nat) (N : zM), Ms[k]? = some N → zMok Ms N) (hM : ∀ e ∈ zm_c M, zEok Ms M e) (hmn : meth.name = (zm_y M).name)
    (hI : ∀ β F v ty, decode (zm_b M) F.1 = .ok (.ireturn, 1) → zm_r M = some ty → F.2.2.1 = [v] → z_isI v = true → z_fit ty v = true → F.2.2.2.2.1 = zm_mc M → F.2.2.2.2.2 = zm_ms M → (β, some v, F.2.2.2.1) ∈ out → zWp p l e0 R s m args below meth c Q E J (zm_L M) β F)
    (hA : ∀ β F k C, decode (zm_b M) F.1 = .ok (.areturn, 1) → zm_r M = some (.object C) → F.2.2.1 = [.inl (.ref k)] → F.2.2.2.2.1 = zm_mc M → F.2.2.2.2.2 = zm_ms M → (β, some (.inl (.ref k)), F.2.2.2.1) ∈ out → zWp p l e0 R s m args below meth c Q E J (zm_L M) β F)
    (hLr : ∀ β F x, decode (zm_b M) F.1 = .ok (.lreturn, 1) → zm_r M = some .long → F.2.2.1 = [.inl (.long x)] → F.2.2.2.2.1 = zm_mc M → F.2.2.2.2.2 = zm_ms M → (β, some (.inl (.long x)), F.2.2.2.1) ∈ out → zWp p l e0 R s m args below meth c Q E J (zm_L M) β F)
    (hV : ∀ β F, decode (zm_b M) F.1 = .ok (.return_, 1) → zm_r M = none → F.2.2.1 = [] → F.2.2.2.2.1 = zm_mc M → F.2.2.2.2.2 = zm_ms M → (β, none, F.2.2.2.1) ∈ out → zWp p l e0 R s m args below meth c Q E J (zm_L M) β F)
    (hcall : ∀ mi as X β lv N, call mi as X β = some lv → zok (zg_r E) β → Ms[mi]? = some N → zMet l E J d N as X (fun r => r ∈ lv)) (hd1 : d + 1 ≤ R.frames) (hd2 : 64 * (d + 1) ≤ R.locals) :
    ∀ (f : Nat) (w : List zJ) (acc : List zR), z_run Ms call (z_code (zg_r E) Ms M) f w acc = some out → (∀ j ∈ w, ∀ x ∈ j.2.2, x ∈ z_code (zg_r E) Ms M) → (∀ r ∈ acc, r ∈ out) ∧ ∀ j ∈ w, zWp p l e0 R s m args below meth c Q E J (zm_L M) j.1 j.2.1
  | 0, w, acc, h, _ => by cases h
  | f + 1, [], acc, h, _ => by
    have h : some acc = some out := h
    cases h
    exact ⟨fun r hr => hr, fun j hj => by cases hj⟩
  | f + 1, j :: w', acc, h, hcs => by
    have ih := zs_runs hC hcl hcm hMs hM hmn hI hA hLr hV hcall hd1 hd2 f
    obtain ⟨q, hq, h⟩ := z_ob_some (show z_ob (z_fetch j.2.1.1 j.2.2 (z_code (zg_r E) Ms M)) _ = some out from h)
    obtain ⟨o, ho, h⟩ := z_ob_some h
    obtain ⟨f1, f2, f3⟩ := z_fetch_ok (hcs j List.mem_cons_self) hq
    obtain ⟨e, he1, he2⟩ := List.mem_map.mp f2
    have hpc : e.1 = j.2.1.1 := by rw [← f1, ← he2]
    have hact : z_act (zg_r E) Ms M e j.1 j.2.1 = some o := by rw [← ho, ← he2]
    have hstep : zNx (zWp p l e0 R s m args below meth c Q E J (zm_L M)) (fun r => r ∈ out) (zPC p l e0 R s m args below meth c Q E J (zm_L M) Ms j.1 j.2.1) o → zWp p l e0 R s m args below meth c Q E J (zm_L M) j.1 j.2.1 := fun hn => zs_step (pc := e.1) (i := e.2.1) (len := e.2.2.1) (a1 := e.2.2.2.1) (a2 := e.2.2.2.2) hC hcl hcm hMs hmn hI hA hLr hV (hM e he1) hpc hact hn
    have hw' : ∀ k ∈ w', ∀ x ∈ k.2.2, x ∈ z_code (zg_r E) Ms M := fun k hk => hcs k (List.mem_cons_of_mem _ hk)
    rcases o with s' | ss | r | cc
    · have h : z_run Ms call (z_code (zg_r E) Ms M) f ((s'.1, s'.2, q.2) :: w') acc = some out := h
      obtain ⟨i1, i2⟩ := ih _ _ h (fun k hk => by
        rcases List.mem_cons.mp hk with e | e
        · rw [e]; exact f3
        · exact hw' k e)
      refine ⟨i1, fun k hk => ?_⟩
      rcases List.mem_cons.mp hk with e | e
      · rw [e]; exact hstep (i2 _ List.mem_cons_self)
      · exact i2 k (List.mem_cons_of_mem _ e)
    · have h : z_run Ms call (z_code (zg_r E) Ms M) f (z_cat2 (ss.map fun s => (s.1, s.2, q.2)) w') acc = some out := h
      rw [z_cat2_eq] at h
      obtain ⟨i1, i2⟩ := ih _ _ h (fun k hk => by
        rcases List.mem_append.mp hk with e | e
        · obtain ⟨s1, -, e⟩ := List.mem_map.mp e
          rw [← e]; exact f3
        · exact hw' k e)
      refine ⟨i1, fun k hk => ?_⟩
      rcases List.mem_cons.mp hk with e | e
      · rw [e]
        exact hstep (fun s1 hs1 => i2 (s1.1, s1.2, q.2) (List.mem_append_left _ (List.mem_map.mpr ⟨s1, hs1, rfl⟩)))
      · exact i2 k (List.mem_append_right _ e)
    · have h : z_run Ms call (z_code (zg_r E) Ms M) f w' (r :: acc) = some out := h
      obtain ⟨i1, i2⟩ := ih _ _ h hw'
      refine ⟨fun x hx => i1 x (List.mem_cons_of_mem _ hx), fun k hk => ?_⟩
      rcases List.mem_cons.mp hk with e | e
      · rw [e]; exact hstep (i1 r List.mem_cons_self)
      · exact i2 k e
    · obtain ⟨N, hN, h⟩ := z_ob_some (show z_ob (Ms[cc.1]?) _ = some out from h)
      obtain ⟨lv, hlv, h⟩ := z_ob_some h
      rw [z_cat2_eq] at h
      obtain ⟨i1, i2⟩ := ih _ _ h (fun k hk => by
        rcases List.mem_append.mp hk with e | e
        · obtain ⟨s1, -, e⟩ := List.mem_map.mp e
          rw [← e]; exact f3
        · exact hw' k e)
      refine ⟨i1, fun k hk => ?_⟩
      rcases List.mem_cons.mp hk with e | e
      · rw [e]
        exact hstep ⟨N, fun r => r ∈ lv, d, hN, fun hok => hcall _ _ _ _ _ _ hlv hok hN, hd1, hd2, fun r hr => i2 _ (List.mem_append_left _ (List.mem_map.mpr ⟨r, hr, rfl⟩))⟩
      · exact i2 k (List.mem_append_right _ e)
end
/-- THE CALL: what the executor finds of a method is its contract -/
theorem zs_call {l : Launch} {E : zG} {Ms : List zM} (hFx : zFix E) (hcl : zClsOk) (hcm : zComOk) (hMs : ∀ (k : Nat) (N : zM), Ms[k]? = some N → zMok Ms N) : ∀ (d : Nat) (J : (Nat → va_E) → Prop) (mi : Nat) (as : List zV) (X : zH) (β : zB) (lv : List zR) (N : zM), z_call (zg_r E) Ms d mi as X β = some lv → zok (zg_r E) β → Ms[mi]? = some N → zMet l E J d N as X (fun r => r ∈ lv)
  | 0, J, mi, as, X, β, lv, N, h, _, _ => by cases h
  | d + 1, J, mi, as, X, β, lv, M, h, hok, hN => by
    have ih := zs_call (l := l) hFx hcl hcm hMs d
    obtain ⟨M', hM', h⟩ := z_ob_some (show z_ob (Ms[mi]?) _ = some lv from h)
    have e : M' = M := Option.some.inj (hM'.symm.trans hN)
    rw [e] at h
    obtain ⟨hsum, h⟩ := z_if_some h
    have hsum := z_ble hsum
    have hok2 := hMs mi M hN
    refine Met.ofW (cc := zm_b M) (maxL := zm_L M) (ret := zm_r M) hok2.1 rfl ?_
    intro p e s m args below meth c s₁ B hml hv
    obtain ⟨hargs, ⟨G, hJ, hrel⟩, henv⟩ := hv
    have hts0 := atoms_spec (ws := z_ws M) B.pre
    have hts : ∀ w ∈ z_WS, w.before args s = true := fun w hw => hts0 w (List.mem_cons_of_mem _ hw)
    have hown : s.vm.findClass (zm_y M).cls = some m.cls := findClass_of_methodNamed B.named
    have hlocks := B.notSynchronized
    have hr := B.returns
    have hmn : meth.name = (zm_y M).name := (name_of_methodNamed B.named B.method).1
    have hC : zCtx p (z_rm (d + 1) M) s m args c E M := ⟨B.exec, B.bytes, hml, hown, hts, henv, hFx, hrel.2.2.2, by rw [hrel.2.1]; exact Nat.le_add_right _ _, Nat.le_refl _, Nat.le_refl _, Nat.succ_le_succ (Nat.zero_le _), by show 64 ≤ 64 * (d + 1); omega⟩
    have hrun := zs_runs (p := p) (l := l) (e0 := e) (R := z_rm (d + 1) M) (s := s) (m := m) (args := args) (below := below) (meth := meth) (c := c) (Q := MQ below (zQc E J (zm_mc M) (fun r => r ∈ lv)) args s (zm_mc M) (zm_ms M) (zgA E)) (E := E) (J := J) (M := M) (Ms := Ms) (out := lv) (call := z_call (zg_r E) Ms d) (d := d) hC hcl hcm hMs hok2.2.2.2.2.2 hmn
      (fun β F v ty hdg hty hst hv1 hfit hce hsl hin => by
        intro hok G hJ H locs ls hp
        rw [hst, hce, hsl]
        show W p l e (z_rm (d + 1) M) s m args below meth c H locs (zm_mc M) (zm_ms M) _ (F0 m F.1 ls [zv E v])
        have hz := z_fit_ok (E := E) hfit
        rw [show zv E v = _ from z_isI_c hv1] at hz ⊢
        refine W.zret B.exec B.bytes (hr.trans hty) hz.1 (fun t ht _ => ⟨⟨_, hin, hok, by show _ = Outcome.returned (some (zv E v)); rw [show zv E v = _ from z_isI_c hv1], G, hJ, by rw [ht]; exact hp.1⟩, by rw [ht, hp.2.2.1, hce]⟩) hp.2.1 hdg hlocks)
      (fun β F k C hdg hty hst hce hsl hin => by
        intro hok G hJ H locs ls hp
        rw [hst, hce, hsl]
        show W p l e (z_rm (d + 1) M) s m args below meth c H locs (zm_mc M) (zm_ms M) _ (F0 m F.1 ls [.ref (zg_a E k)])
        exact W.aret B.exec B.bytes (hr.trans hty) (Or.inl ⟨C, rfl⟩) (Or.inr ⟨_, rfl⟩) (fun t ht _ => ⟨⟨_, hin, hok, rfl, G, hJ, by rw [ht]; exact hp.1⟩, by rw [ht, hp.2.2.1, hce]⟩) hp.2.1 hdg hlocks)
      (fun β F x hdg hty hst hce hsl hin => by
        intro hok G hJ H locs ls hp
        rw [hst, hce, hsl]
        show W p l e (z_rm (d + 1) M) s m args below meth c H locs (zm_mc M) (zm_ms M) _ (F0 m F.1 ls [.long x])
        exact W.lret B.exec B.bytes (hr.trans hty) (fun t ht _ => ⟨⟨_, hin, hok, rfl, G, hJ, by rw [ht]; exact hp.1⟩, by rw [ht, hp.2.2.1, hce]⟩) hp.2.1 hdg hlocks)
      (fun β F hdg hty hst hce hsl hin => by
        intro hok G hJ H locs ls hp
        rw [hst, hce, hsl]
        show W p l e (z_rm (d + 1) M) s m args below meth c H locs (zm_mc M) (zm_ms M) _ (F0 m F.1 ls [])
        exact W.vret B.exec B.bytes (hr.trans hty) (fun t ht _ => ⟨⟨_, hin, hok, rfl, G, hJ, by rw [ht]; exact hp.1⟩, by rw [ht, hp.2.2.1, hce]⟩) hp.2.1 hdg hlocks)
      (fun mi as X β lv N h1 h2 h3 => ih J mi as X β lv N h1 h2 h3) (Nat.le_refl _) (Nat.le_refl _) _ _ _ h (fun j hj x hx => by
        rcases List.mem_singleton.mp hj with rfl
        exact hx)
    have hw := hrun.2 _ List.mem_cons_self hok G hJ s.heap []
    have hl := lv_entry (as.map (zv E)) (n := zm_L M) (by rw [z_sl_len hFx.2.2.2]; exact hsum)
    rw [hargs, lg_entry_eq]
    generalize (lg_sl (as.map (zv E)) ++ List.replicate (zm_L M - (lg_sl (as.map (zv E))).length) Slot.unset).toArray = ls at hl ⊢
    rw [← hargs]
    exact hw ls ⟨hrel, fun q hq => (by cases hq), rfl, by
      show lv_has ls (zm_L M) ((z_ent as 0).map fun q => (q.1, zv E q.2))
      rw [z_ent_ok hFx.2.2.2]
      exact hl⟩
