/-! the run of a method over numbers that are known: what it ends in. This is all that the parts behind it know of the machine. -/
def zCl (p : Program) (l : Launch) (e0 : Env) (R : Room) (s : State) (m : MethodId) (args : Array Value) (below : List Frame) (meth : Method) (c : Code) (Q : State → Prop) (E : zG) (J : (Nat → va_E) → Prop) (M : zM) (L : zR → Prop) : Prop :=
  (∀ β F v ty, decode (zm_b M) F.1 = .ok (.ireturn, 1) → zm_r M = some ty → F.2.2.1 = [v] → z_isI v = true → z_fit ty v = true → F.2.2.2.2.1 = zm_mc M → F.2.2.2.2.2 = zm_ms M → L (β, some v, F.2.2.2.1) → zWp p l e0 R s m args below meth c Q E J (zm_L M) β F) ∧
  (∀ β F k C, decode (zm_b M) F.1 = .ok (.areturn, 1) → zm_r M = some (.object C) → F.2.2.1 = [.inl (.ref k)] → F.2.2.2.2.1 = zm_mc M → F.2.2.2.2.2 = zm_ms M → L (β, some (.inl (.ref k)), F.2.2.2.1) → zWp p l e0 R s m args below meth c Q E J (zm_L M) β F) ∧
  (∀ β F x, decode (zm_b M) F.1 = .ok (.lreturn, 1) → zm_r M = some .long → F.2.2.1 = [.inl (.long x)] → F.2.2.2.2.1 = zm_mc M → F.2.2.2.2.2 = zm_ms M → L (β, some (.inl (.long x)), F.2.2.2.1) → zWp p l e0 R s m args below meth c Q E J (zm_L M) β F) ∧
  (∀ β F, decode (zm_b M) F.1 = .ok (.return_, 1) → zm_r M = none → F.2.2.1 = [] → F.2.2.2.2.1 = zm_mc M → F.2.2.2.2.2 = zm_ms M → L (β, none, F.2.2.2.1) → zWp p l e0 R s m args below meth c Q E J (zm_L M) β F)
/-- from the frame F of method M, with d frames left, the machine comes to a return that L knows -/
def zEnds (S : Nat → Int32) (d : Nat) (M : zM) (F : zF) (L : zR → Prop) : Prop :=
  ∀ (p : Program) (l : Launch) (e0 : Env) (R : Room) (s : State) (m : MethodId) (args : Array Value) (below : List Frame) (meth : Method) (c : Code) (Q : State → Prop) (E : zG) (J : (Nat → va_E) → Prop), zg_r E = S → zCtx p R s m args c E M → meth.name = (zm_y M).name → d ≤ R.frames → 64 * d ≤ R.locals → zCl p l e0 R s m args below meth c Q E J M L → zWp p l e0 R s m args below meth c Q E J (zm_L M) [] F
/-- a call of N with these values on this heap returns, and LC knows what -/
def zCalled (S : Nat → Int32) (d : Nat) (N : zM) (as : List zV) (X : zH) (LC : zR → Prop) : Prop := ∀ (l : Launch) (E : zG) (J : (Nat → va_E) → Prop), zg_r E = S → zFix E → zMet l E J d N as X LC
section
variable {S : Nat → Int32} {Ms : List zM} {d : Nat} {M : zM} {F : zF} {L : zR → Prop}
theorem zCl.mono {p : Program} {l : Launch} {e0 : Env} {R : Room} {s : State} {m : MethodId} {args : Array Value} {below : List Frame} {meth : Method} {c : Code} {Q : State → Prop} {E : zG} {J : (Nat → va_E) → Prop} {L' : zR → Prop} (hL : ∀ r, L r → L' r) (h : zCl p l e0 R s m args below meth c Q E J M L') : zCl p l e0 R s m args below meth c Q E J M L :=
  ⟨fun β F v ty a1 a2 a3 a4 a5 a6 a7 a8 => h.1 β F v ty a1 a2 a3 a4 a5 a6 a7 (hL _ a8), fun β F k C a1 a2 a3 a4 a5 a6 => h.2.1 β F k C a1 a2 a3 a4 a5 (hL _ a6), fun β F x a1 a2 a3 a4 a5 a6 => h.2.2.1 β F x a1 a2 a3 a4 a5 (hL _ a6), fun β F a1 a2 a3 a4 a5 a6 => h.2.2.2 β F a1 a2 a3 a4 a5 (hL _ a6)⟩
theorem zEnds.mono {L' : zR → Prop} (hL : ∀ r, L r → L' r) (h : zEnds S d M F L) : zEnds S d M F L' := fun p l e0 R s m args below meth c Q E J h1 h2 h3 h4 h5 h6 => h p l e0 R s m args below meth c Q E J h1 h2 h3 h4 h5 (h6.mono hL)
theorem zEnds.deep {d' : Nat} (hd : d ≤ d') (h : zEnds S d M F L) : zEnds S d' M F L := fun p l e0 R s m args below meth c Q E J h1 h2 h3 h4 h5 h6 => h p l e0 R s m args below meth c Q E J h1 h2 h3 (Nat.le_trans hd h4) (Nat.le_trans (Nat.mul_le_mul_left 64 hd) h5) h6
/-- one instruction -/
theorem zE_step (hcl : zClsOk) (hcm : zComOk) (hMs : ∀ (k : Nat) (N : zM), Ms[k]? = some N → zMok Ms N) (hM : ∀ e ∈ zm_c M, zEok Ms M e) {e : zE} {o : zO} (he : e ∈ zm_c M) (hpc : e.1 = F.1) (hact : z_act S Ms M e [] F = some o)
    (hn : match o with
      | .inl s => s.1 = [] ∧ zEnds S d M s.2 L
      | .inr (.inl _) => False
      | .inr (.inr (.inl r)) => L r
      | .inr (.inr (.inr q)) => ∃ (N : zM) (LC : zR → Prop) (d' : Nat), Ms[q.1]? = some N ∧ zCalled S d' N q.2.1 F.2.2.2.1 LC ∧ d' + 1 ≤ d ∧ ∀ r, LC r → r.1 = [] ∧ zEnds S d M (Nat.add F.1 3, F.2.1, Option.rec (motive := fun _ => List zV) q.2.2 (fun v => v :: q.2.2) r.2.1, r.2.2, Nat.add F.2.2.2.2.1 (zm_mc N), Nat.add F.2.2.2.2.2 (zm_ms N)) L) : zEnds S d M F L := by
  intro p l e0 R s m args below meth c Q E J h1 h2 h3 h4 h5 h6
  obtain ⟨hI, hA, hLr, hV⟩ := id h6
  subst h1
  refine zs_step (PR := L) (pc := e.1) (i := e.2.1) (len := e.2.2.1) (a1 := e.2.2.2.1) (a2 := e.2.2.2.2) h2 hcl hcm hMs h3 hI hA hLr hV (hM e he) hpc hact ?_
  rcases o with s' | ss | r | q
  · obtain ⟨e1, hn⟩ := hn
    show zWp p l e0 R s m args below meth c Q E J (zm_L M) s'.1 s'.2
    rw [e1]
    exact hn p l e0 R s m args below meth c Q E J rfl h2 h3 h4 h5 h6
  · exact hn.elim
  · exact hn
  · obtain ⟨N, LC, d', n1, n2, n3, n4⟩ := hn
    refine ⟨N, LC, d', n1, fun _ => n2 l E J rfl h2.2.2.2.2.2.2.1, Nat.le_trans n3 h4, Nat.le_trans (Nat.mul_le_mul_left 64 n3) h5, fun r hr => ?_⟩
    obtain ⟨e1, n5⟩ := n4 r hr
    rw [e1]
    exact n5 p l e0 R s m args below meth c Q E J rfl h2 h3 h4 h5 h6
/-- a method's body gives its calls -/
theorem zE_body {N : zM} {as : List zV} {X : zH} {LC : zR → Prop} (hok2 : zMok Ms N) (hsum : z_sum as ≤ zm_L N) (hd : 1 ≤ d) (h : zEnds S d N (0, z_ent as 0, [], X, 0, 0) LC) : zCalled S d N as X LC := by
  intro l E J hS hFx
  refine Met.ofW (cc := zm_b N) (maxL := zm_L N) (ret := zm_r N) hok2.1 rfl ?_
  intro p e s m args below meth c s₁ B hml hv
  obtain ⟨hargs, ⟨G, hJ, hrel⟩, henv⟩ := hv
  have hts0 := atoms_spec (ws := z_ws N) B.pre
  have hts : ∀ w ∈ z_WS, w.before args s = true := fun w hw => hts0 w (List.mem_cons_of_mem _ hw)
  have hown : s.vm.findClass (zm_y N).cls = some m.cls := findClass_of_methodNamed B.named
  have hlocks := B.notSynchronized
  have hr := B.returns
  have hmn : meth.name = (zm_y N).name := (name_of_methodNamed B.named B.method).1
  have hC : zCtx p (z_rm d N) s m args c E N := ⟨B.exec, B.bytes, hml, hown, hts, henv, hFx, hrel.2.2.2, by rw [hrel.2.1]; exact Nat.le_add_right _ _, Nat.le_refl _, Nat.le_refl _, hd, by show 64 ≤ 64 * d; omega⟩
  have hrun := h p l e (z_rm d N) s m args below meth c (MQ below (zQc E J (zm_mc N) LC) args s (zm_mc N) (zm_ms N) (zgA E)) E J hS hC hmn (Nat.le_refl _) (Nat.le_refl _) ⟨
    fun β F v ty hdg hty hst hv1 hfit hce hsl hin => by
      intro hok G hJ H locs ls hp
      rw [hst, hce, hsl]
      show W p l e (z_rm d N) s m args below meth c H locs (zm_mc N) (zm_ms N) _ (F0 m F.1 ls [zv E v])
      have hz := z_fit_ok (E := E) hfit
      rw [show zv E v = _ from z_isI_c hv1] at hz ⊢
      refine W.zret B.exec B.bytes (hr.trans hty) hz.1 (fun t ht _ => ⟨⟨_, hin, hok, by show _ = Outcome.returned (some (zv E v)); rw [show zv E v = _ from z_isI_c hv1], G, hJ, by rw [ht]; exact hp.1⟩, by rw [ht, hp.2.2.1, hce]⟩) hp.2.1 hdg hlocks,
    fun β F k C hdg hty hst hce hsl hin => by
      intro hok G hJ H locs ls hp
      rw [hst, hce, hsl]
      show W p l e (z_rm d N) s m args below meth c H locs (zm_mc N) (zm_ms N) _ (F0 m F.1 ls [.ref (zg_a E k)])
      exact W.aret B.exec B.bytes (hr.trans hty) (Or.inl ⟨C, rfl⟩) (Or.inr ⟨_, rfl⟩) (fun t ht _ => ⟨⟨_, hin, hok, rfl, G, hJ, by rw [ht]; exact hp.1⟩, by rw [ht, hp.2.2.1, hce]⟩) hp.2.1 hdg hlocks,
    fun β F x hdg hty hst hce hsl hin => by
      intro hok G hJ H locs ls hp
      rw [hst, hce, hsl]
      show W p l e (z_rm d N) s m args below meth c H locs (zm_mc N) (zm_ms N) _ (F0 m F.1 ls [.long x])
      exact W.lret B.exec B.bytes (hr.trans hty) (fun t ht _ => ⟨⟨_, hin, hok, rfl, G, hJ, by rw [ht]; exact hp.1⟩, by rw [ht, hp.2.2.1, hce]⟩) hp.2.1 hdg hlocks,
    fun β F hdg hty hst hce hsl hin => by
      intro hok G hJ H locs ls hp
      rw [hst, hce, hsl]
      show W p l e (z_rm d N) s m args below meth c H locs (zm_mc N) (zm_ms N) _ (F0 m F.1 ls [])
      exact W.vret B.exec B.bytes (hr.trans hty) (fun t ht _ => ⟨⟨_, hin, hok, rfl, G, hJ, by rw [ht]; exact hp.1⟩, by rw [ht, hp.2.2.1, hce]⟩) hp.2.1 hdg hlocks⟩
  have hw := hrun (fun i b hb => (by cases hb)) G hJ s.heap []
  have hl := lv_entry (as.map (zv E)) (n := zm_L N) (by rw [z_sl_len hFx.2.2.2]; exact hsum)
  rw [hargs, lg_entry_eq]
  generalize (lg_sl (as.map (zv E)) ++ List.replicate (zm_L N - (lg_sl (as.map (zv E))).length) Slot.unset).toArray = ls at hl ⊢
  rw [← hargs]
  exact hw ls ⟨hrel, fun q hq => (by cases hq), rfl, by
    show lv_has ls (zm_L N) ((z_ent as 0).map fun q => (q.1, zv E q.2))
    rw [z_ent_ok hFx.2.2.2]
    exact hl⟩
/-- what the executor itself runs through -/
theorem zE_con {N : zM} {as : List zV} {X : zH} {lv : List zR} {mi : Nat} (hcl : zClsOk) (hcm : zComOk) (hMs : ∀ (k : Nat) (N : zM), Ms[k]? = some N → zMok Ms N) (hN : Ms[mi]? = some N) (h : z_call S Ms d mi as X [] = some lv) : zCalled S d N as X (fun r => r ∈ lv) := by
  intro l E J hS hFx
  subst hS
  exact zs_call hFx hcl hcm hMs d J mi as X [] lv N h (fun i b hb => (by cases hb)) hN
end
