/-! jumps -/
section
variable {p : Program} {l : Launch} {e0 : Env} {R : Room} {s : State} {m : MethodId} {args : Array Value} {below : List Frame} {meth : Method} {c : Code} {Q : State → Prop} {E : zG} {J : (Nat → va_E) → Prop} {M : zM} {Ms : List zM} {PR : zR → Prop} {PC : Nat × List zV × List zV → Prop} {β : zB} {F : zF} {o : zO}
/-- every way that the machine may go is one of the list -/
theorem zs_br {g k : Nat} {t : List zV} {ss : List (Bool × zB)} {P : Prop} (hss : zok (zg_r E) β → ∃ q ∈ ss, zok (zg_r E) q.2 ∧ (q.1 = true ↔ P))
    (hr : zok (zg_r E) β → ∀ H locs ls, (P → W p l e0 R s m args below meth c H locs F.2.2.2.2.1 F.2.2.2.2.2 Q (F0 m g ls (t.map (zv E)))) → (¬ P → W p l e0 R s m args below meth c H locs F.2.2.2.2.1 F.2.2.2.2.2 Q (F0 m (F.1 + k) ls (t.map (zv E)))) → W p l e0 R s m args below meth c H locs F.2.2.2.2.1 F.2.2.2.2.2 Q (F0 m F.1 ls (F.2.2.1.map (zv E))))
    (h : z_br g k t F ss = some o) (hn : zNx (zWp p l e0 R s m args below meth c Q E J (zm_L M)) PR PC o) : zWp p l e0 R s m args below meth c Q E J (zm_L M) β F := by
  cases h
  intro hok G hJ H locs ls hp
  obtain ⟨q, hq, hqo, hqP⟩ := hss hok
  have hw := hn (q.2, (z_if q.1 g (Nat.add F.1 k), F.2.1, t, F.2.2.2)) (List.mem_map.mpr ⟨q, hq, rfl⟩) hqo G hJ H locs ls hp
  refine hr hok H locs ls (fun hP => ?_) (fun hP => ?_)
  · have e := hqP.mpr hP
    rw [show z_if q.1 g (Nat.add F.1 k) = g by rw [e]] at hw
    exact hw
  · have e : q.1 = false := by
      cases e : q.1 with
      | false => rfl
      | true => exact absurd (hqP.mp e) hP
    rw [show z_if q.1 g (Nat.add F.1 k) = F.1 + k by rw [e]; rfl] at hw
    exact hw
theorem zs_br1 {g k : Nat} {t : List zV} {b : Bool} {P : Prop} (hb : b = true ↔ P)
    (hr : zok (zg_r E) β → ∀ H locs ls, (P → W p l e0 R s m args below meth c H locs F.2.2.2.2.1 F.2.2.2.2.2 Q (F0 m g ls (t.map (zv E)))) → (¬ P → W p l e0 R s m args below meth c H locs F.2.2.2.2.1 F.2.2.2.2.2 Q (F0 m (F.1 + k) ls (t.map (zv E)))) → W p l e0 R s m args below meth c H locs F.2.2.2.2.1 F.2.2.2.2.2 Q (F0 m F.1 ls (F.2.2.1.map (zv E))))
    (h : z_br1 g k t β F b = some o) (hn : zNx (zWp p l e0 R s m args below meth c Q E J (zm_L M)) PR PC o) : zWp p l e0 R s m args below meth c Q E J (zm_L M) β F := by
  cases h
  intro hok G hJ H locs ls hp
  have hw := hn hok G hJ H locs ls hp
  refine hr hok H locs ls (fun hP => ?_) (fun hP => ?_)
  · have e := hb.mpr hP
    rw [show z_if b g (Nat.add F.1 k) = g by rw [e]] at hw
    exact hw
  · have e : b = false := by
      cases e : b with
      | false => rfl
      | true => exact absurd (hb.mp e) hP
    rw [show z_if b g (Nat.add F.1 k) = F.1 + k by rw [e]; rfl] at hw
    exact hw
theorem zs_cond {r : ClassFile.Cond} {g : Nat} {a b : zV} {t : List zV}
    (hr : z_isI a = true → z_isI b = true → ∀ H locs ls, (zr r (z_n (z_I (zg_r E) a)) (z_n (z_I (zg_r E) b)) → W p l e0 R s m args below meth c H locs F.2.2.2.2.1 F.2.2.2.2.2 Q (F0 m g ls (t.map (zv E)))) → (¬ zr r (z_n (z_I (zg_r E) a)) (z_n (z_I (zg_r E) b)) → W p l e0 R s m args below meth c H locs F.2.2.2.2.1 F.2.2.2.2.2 Q (F0 m (F.1 + 3) ls (t.map (zv E)))) → W p l e0 R s m args below meth c H locs F.2.2.2.2.1 F.2.2.2.2.2 Q (F0 m F.1 ls (F.2.2.1.map (zv E))))
    (h : z_cond r g a b t β F = some o) (hn : zNx (zWp p l e0 R s m args below meth c Q E J (zm_L M)) PR PC o) : zWp p l e0 R s m args below meth c Q E J (zm_L M) β F := by
  unfold z_cond at h
  cases ea : z_cI a with
  | none =>
    rw [ea] at h
    obtain ⟨i1, h⟩ := z_if_some (show z_if (z_isI a) _ none = some o from h)
    obtain ⟨i2, h⟩ := z_if_some h
    exact zs_br (fun hok => z_split_ok hok i1 i2) (fun _ => hr i1 i2) h hn
  | some x =>
    rw [ea] at h
    have i1 : z_isI a = true := by rw [z_cI_some ea]; rfl
    have h : Option.rec (motive := fun _ => Option zO) (z_if (z_isI b) (z_br g 3 t F (z_split r a b β)) none) (fun y => z_br1 g 3 t β F (z_cmp r (z_n x) (z_n y))) (z_cI b) = some o := h
    cases eb : z_cI b with
    | none =>
      rw [eb] at h
      obtain ⟨i2, h⟩ := z_if_some (show z_if (z_isI b) _ none = some o from h)
      exact zs_br (fun hok => z_split_ok hok i1 i2) (fun _ => hr i1 i2) h hn
    | some y =>
      rw [eb] at h
      have i2 : z_isI b = true := by rw [z_cI_some eb]; rfl
      have e1 : z_I (zg_r E) a = x := by rw [z_cI_some ea]; rfl
      have e2 : z_I (zg_r E) b = y := by rw [z_cI_some eb]; rfl
      refine zs_br1 (P := zr r (z_n (z_I (zg_r E) a)) (z_n (z_I (zg_r E) b))) ?_ (fun _ => hr i1 i2) h hn
      rw [e1, e2]
      exact z_cmp_ok
theorem z_n0 : z_n (Int32.ofNat 0) = 2147483648 := by decide
theorem zs_If {r : ClassFile.Cond} {off : Int} (hC : zCtx p R s m args c E M) (hj : (F.1 : Int) + off = (z_tgt F.1 off : Int)) (hdg : decode (zm_b M) F.1 = .ok (.ifCond r off, 3)) (h : z_aIf r (z_tgt F.1 off) β F = some o) (hn : zNx (zWp p l e0 R s m args below meth c Q E J (zm_L M)) PR PC o) : zWp p l e0 R s m args below meth c Q E J (zm_L M) β F := by
  obtain ⟨hx, hb, -⟩ := hC
  obtain ⟨a, t, hs, h⟩ := z_lc_some h
  refine zs_cond (fun i1 _ H locs ls kt kf => ?_) h hn
  rw [hs]
  show W p l e0 R s m args below meth c H locs F.2.2.2.2.1 F.2.2.2.2.2 Q (F0 m F.1 ls (zv E a :: t.map (zv E)))
  rw [show zv E a = _ from z_isI_c i1]
  generalize z_I (zg_r E) a = x at kt kf
  have e0 : z_n (z_I (zg_r E) (.inl (.int (Int32.ofNat 0)))) = z_n 0 := rfl
  rw [e0] at kt kf
  have heq : z_n x = z_n 0 ↔ x = 0 := z_n_eq x 0
  have hlt : z_n x < z_n 0 ↔ x < 0 := z_n_lt x 0
  have hgt : z_n 0 < z_n x ↔ 0 < x := z_n_lt 0 x
  cases r
  · exact lv_if_eq hx hb hdg hj (fun q => kt (heq.mpr q)) (fun q => kf (fun q2 => q (heq.mp q2)))
  · exact lv_if_ne hx hb hdg hj (fun q => kt (fun q2 => q (heq.mp q2))) (fun q => kf (fun q2 => q2 (heq.mpr q)))
  · exact lv_if_lt hx hb hdg hj (fun q => kt (hlt.mpr q)) (fun q => kf (fun q2 => q (hlt.mp q2)))
  · exact lv_if_ge hx hb hdg hj (fun q => kt (fun q2 => Int32.not_lt.mpr q (hlt.mp q2))) (fun q => kf (fun q2 => q (Int32.not_lt.mp (fun q3 => q2 (hlt.mpr q3)))))
  · exact lv_if_gt hx hb hdg hj (fun q => kt (hgt.mpr q)) (fun q => kf (fun q2 => q (hgt.mp q2)))
  · exact lv_if_le hx hb hdg hj (fun q => kt (fun q2 => Int32.not_lt.mpr q (hgt.mp q2))) (fun q => kf (fun q2 => q (Int32.not_lt.mp (fun q3 => q2 (hgt.mpr q3)))))
theorem zs_Cmp {r : ClassFile.Cond} {off : Int} (hC : zCtx p R s m args c E M) (hj : (F.1 : Int) + off = (z_tgt F.1 off : Int)) (hdg : decode (zm_b M) F.1 = .ok (.if_icmp r off, 3)) (h : z_aCmp r (z_tgt F.1 off) β F = some o) (hn : zNx (zWp p l e0 R s m args below meth c Q E J (zm_L M)) PR PC o) : zWp p l e0 R s m args below meth c Q E J (zm_L M) β F := by
  obtain ⟨hx, hb, -⟩ := hC
  obtain ⟨b, s', hs, h⟩ := z_lc_some h
  obtain ⟨a, t, hs', h⟩ := z_lc_some h
  rw [hs'] at hs
  refine zs_cond (fun i1 i2 H locs ls kt kf => ?_) h hn
  rw [hs]
  show W p l e0 R s m args below meth c H locs F.2.2.2.2.1 F.2.2.2.2.2 Q (F0 m F.1 ls (zv E b :: zv E a :: t.map (zv E)))
  rw [show zv E a = _ from z_isI_c i1, show zv E b = _ from z_isI_c i2]
  generalize z_I (zg_r E) a = x at kt kf
  generalize z_I (zg_r E) b = y at kt kf
  have heq : z_n x = z_n y ↔ x = y := z_n_eq x y
  have hlt : z_n x < z_n y ↔ x < y := z_n_lt x y
  have hgt : z_n y < z_n x ↔ y < x := z_n_lt y x
  cases r
  · exact lv_icmp_eq hx hb hdg hj (fun q => kt (heq.mpr q)) (fun q => kf (fun q2 => q (heq.mp q2)))
  · exact lv_icmp_ne hx hb hdg hj (fun q => kt (fun q2 => q (heq.mp q2))) (fun q => kf (fun q2 => q2 (heq.mpr q)))
  · exact lv_icmp_lt hx hb hdg hj (fun q => kt (hlt.mpr q)) (fun q => kf (fun q2 => q (hlt.mp q2)))
  · exact lv_icmp_ge hx hb hdg hj (fun q => kt (fun q2 => Int32.not_lt.mpr q (hlt.mp q2))) (fun q => kf (fun q2 => q (Int32.not_lt.mp (fun q3 => q2 (hlt.mpr q3)))))
  · exact lv_icmp_gt hx hb hdg hj (fun q => kt (hgt.mpr q)) (fun q => kf (fun q2 => q (hgt.mp q2)))
  · exact lv_icmp_le hx hb hdg hj (fun q => kt (fun q2 => Int32.not_lt.mpr q (hgt.mp q2))) (fun q => kf (fun q2 => q (Int32.not_lt.mp (fun q3 => q2 (hgt.mpr q3)))))
theorem zs_Goto {off : Int} (hC : zCtx p R s m args c E M) (hj : (F.1 : Int) + off = (z_tgt F.1 off : Int)) (hdg : decode (zm_b M) F.1 = .ok (.goto off, 3)) (h : z_aGoto (z_tgt F.1 off) β F = some o) (hn : zNx (zWp p l e0 R s m args below meth c Q E J (zm_L M)) PR PC o) : zWp p l e0 R s m args below meth c Q E J (zm_L M) β F := by
  obtain ⟨hx, hb, -⟩ := hC
  cases h
  exact fun hok G hJ H locs ls hp => lv_goto hx hb hdg hj (hn hok G hJ H locs ls hp)
theorem zs_Null {off : Int} (hC : zCtx p R s m args c E M) (hdg : decode (zm_b M) F.1 = .ok (.ifnull off, 3)) (h : z_aNul false (z_tgt F.1 off) β F = some o) (hn : zNx (zWp p l e0 R s m args below meth c Q E J (zm_L M)) PR PC o) : zWp p l e0 R s m args below meth c Q E J (zm_L M) β F := by
  obtain ⟨hx, hb, -⟩ := hC
  obtain ⟨a, t, hs, h⟩ := z_lc_some h
  obtain ⟨k, hk, h⟩ := z_ob_some h
  rw [z_cR_some hk] at hs
  refine zs_br1 (P := False) ⟨fun h => (by cases h), fun h => h.elim⟩ (fun _ H locs ls kt kf => ?_) h hn
  rw [hs]
  exact lv_ifnull hx hb hdg (kf (fun h => h))
theorem zs_Nonn {off : Int} (hC : zCtx p R s m args c E M) (hj : (F.1 : Int) + off = (z_tgt F.1 off : Int)) (hdg : decode (zm_b M) F.1 = .ok (.ifnonnull off, 3)) (h : z_aNul true (z_tgt F.1 off) β F = some o) (hn : zNx (zWp p l e0 R s m args below meth c Q E J (zm_L M)) PR PC o) : zWp p l e0 R s m args below meth c Q E J (zm_L M) β F := by
  obtain ⟨hx, hb, -⟩ := hC
  obtain ⟨a, t, hs, h⟩ := z_lc_some h
  obtain ⟨k, hk, h⟩ := z_ob_some h
  rw [z_cR_some hk] at hs
  refine zs_br1 (P := True) ⟨fun _ => trivial, fun _ => rfl⟩ (fun _ H locs ls kt kf => ?_) h hn
  rw [hs]
  exact lv_ifnonnull hx hb hdg hj (kt trivial)
/-- a table's places -/
theorem z_tab_in {a : zV} {t : List zV} (hok : zok (zg_r E) β) (ha : z_isI a = true) (hc : z_cI a = none) : ∀ (gs : List Nat) (lo k : Nat) (g : Nat), gs[k]? = some g → z_n (z_I (zg_r E) a) = lo + k → ∃ β', (β', (g, F.2.1, t, F.2.2.2)) ∈ z_tab a t β F gs lo ∧ zok (zg_r E) β'
  | [], _, _, _, h, _ => by simp at h
  | g0 :: gs, lo, k, g, h, hn => by
    show ∃ β', _ ∈ Option.rec (motive := fun _ => List (zB × zF)) ((β, (g0, F.2.1, t, F.2.2.2)) :: z_tab a t β F gs (Nat.succ lo)) (fun i => Option.rec (motive := fun _ => List (zB × zF)) (z_tab a t β F gs (Nat.succ lo)) (fun β' => (β', (g0, F.2.1, t, F.2.2.2)) :: z_tab a t β F gs (Nat.succ lo)) (z_rf .eq i lo β)) (z_cV a) ∧ _
    cases k with
    | zero =>
      simp at h
      subst h
      cases e : z_cV a with
      | none => exact ⟨β, List.mem_cons_self, hok⟩
      | some i =>
        have e1 := z_cV_some e
        obtain ⟨β', e2, e3⟩ := z_rf_ok (r := .eq) (i := i) (c := lo) hok (by rw [e1] at hn; exact hn)
        refine ⟨β', ?_, e3⟩
        show _ ∈ Option.rec (motive := fun _ => List (zB × zF)) _ _ (z_rf .eq i lo β)
        rw [e2]
        exact List.mem_cons_self
    | succ k =>
      obtain ⟨β', h1, h2⟩ := z_tab_in hok ha hc gs (Nat.succ lo) k g (by simpa using h) (by omega)
      refine ⟨β', ?_, h2⟩
      cases e : z_cV a with
      | none => exact List.mem_cons_of_mem _ h1
      | some i =>
        show _ ∈ Option.rec (motive := fun _ => List (zB × zF)) _ _ (z_rf .eq i lo β)
        cases e2 : z_rf .eq i lo β with
        | none => exact h1
        | some b => exact List.mem_cons_of_mem _ h1
theorem z_dfl_ok {a : zV} : ∀ (gs : List Nat) (lo : Nat) (β : zB), zok (zg_r E) β → z_isI a = true → (z_n (z_I (zg_r E) a) < lo ∨ lo + gs.length ≤ z_n (z_I (zg_r E) a)) → ∃ β', z_dfl a gs lo β = some β' ∧ zok (zg_r E) β'
  | [], _, β, hok, _, _ => ⟨β, rfl, hok⟩
  | g :: gs, lo, β, hok, ha, h => by
    show ∃ β', Option.rec (motive := fun _ => Option zB) (some β) (fun i => z_ob (z_rf .ne i lo β) fun β' => z_dfl a gs (Nat.succ lo) β') (z_cV a) = some β' ∧ _
    cases e : z_cV a with
    | none => exact ⟨β, rfl, hok⟩
    | some i =>
      have e1 := z_cV_some e
      have hne : ¬ z_n (z_I (zg_r E) a) = lo := by
        simp at h
        omega
      obtain ⟨β', e2, e3⟩ := z_rf_ok (r := .ne) (i := i) (c := lo) hok (by rw [e1] at hne; exact hne)
      show ∃ β', z_ob (z_rf .ne i lo β) _ = some β' ∧ _
      rw [e2]
      exact z_dfl_ok gs (Nat.succ lo) β' e3 ha (by
        simp at h
        omega)
theorem z_tpc_in {d lo x k g : Nat} {gs : List Nat} (h : gs[k]? = some g) (hk : x = lo + k) : z_tpc d lo gs x = g := by
  unfold z_tpc
  cases e1 : Nat.blt x lo with
  | true => exact absurd (z_blt e1) (by omega)
  | false =>
    show Option.rec (motive := fun _ => Nat) _ _ _ = _
    rw [z_nth_eq, show Nat.sub x lo = k by show x - lo = k; omega, h]
theorem z_tpc_out {d lo x : Nat} {gs : List Nat} (h : x < lo ∨ lo + gs.length ≤ x) : z_tpc d lo gs x = d := by
  unfold z_tpc
  cases e1 : Nat.blt x lo with
  | true => rfl
  | false =>
    have h1 := z_nblt e1
    show Option.rec (motive := fun _ => Nat) _ _ _ = _
    rw [z_nth_eq, List.getElem?_eq_none (by
      show _ ≤ x - lo
      omega)]
theorem zs_TabA {dflt lo hi : Int} {offs : Array Int} {len lo' : Nat} (elo : (lo' : Int) = lo + 2147483648) (hC : zCtx p R s m args c E M) (hl : ((offs.toList.length : Nat) : Int) = hi - lo + 1) (hj : (F.1 : Int) + dflt = (z_tgt F.1 dflt : Int) ∧ ∀ off ∈ offs.toList, (F.1 : Int) + off = (z_tgt F.1 off : Int))
    (hdg : decode (zm_b M) F.1 = .ok (.tableswitch dflt lo hi offs, len)) (h : z_aTab (z_tgt F.1 dflt) lo' (offs.toList.map (z_tgt F.1)) β F = some o) (hn : zNx (zWp p l e0 R s m args below meth c Q E J (zm_L M)) PR PC o) : zWp p l e0 R s m args below meth c Q E J (zm_L M) β F := by
  obtain ⟨hx, hb, -⟩ := hC
  obtain ⟨a, t, hs, h⟩ := z_lc_some h
  -- the machine's own way
  have key : ∀ H locs ls (x : Int32), ((∀ off k, offs.toList[k]? = some off → z_n x = lo' + k → W p l e0 R s m args below meth c H locs F.2.2.2.2.1 F.2.2.2.2.2 Q (F0 m (z_tgt F.1 off) ls (t.map (zv E)))) → ((z_n x < lo' ∨ lo' + offs.toList.length ≤ z_n x) → W p l e0 R s m args below meth c H locs F.2.2.2.2.1 F.2.2.2.2.2 Q (F0 m (z_tgt F.1 dflt) ls (t.map (zv E)))) → W p l e0 R s m args below meth c H locs F.2.2.2.2.1 F.2.2.2.2.2 Q (F0 m F.1 ls (.int x :: t.map (zv E)))) := by
    intro H locs ls x kin kout
    have ex := z_n_int x
    by_cases hr : x.toInt < lo ∨ hi < x.toInt
    · exact lv_tableOut hx hb hdg hr hj.1 (kout (by omega))
    · have h1 : ¬ x.toInt < lo := fun q => hr (Or.inl q)
      have h2 : ¬ hi < x.toInt := fun q => hr (Or.inr q)
      have hk : (x.toInt - lo).toNat < offs.toList.length := by omega
      obtain ⟨off, hoff⟩ : ∃ off, offs.toList[(x.toInt - lo).toNat]? = some off := ⟨_, List.getElem?_eq_getElem hk⟩
      exact lv_tableIn hx hb hdg h1 h2 (by rw [← Array.getElem?_toList]; exact hoff) (hj.2 off (List.mem_of_getElem? hoff)) (kin off _ hoff (by omega))
  cases ea : z_cI a with
  | none =>
    rw [ea] at h
    obtain ⟨i1, h⟩ := z_if_some (show z_if (z_isI a) _ none = some o from h)
    cases h
    intro hok G hJ H locs ls hp
    rw [hs]
    show W p l e0 R s m args below meth c H locs F.2.2.2.2.1 F.2.2.2.2.2 Q (F0 m F.1 ls (zv E a :: t.map (zv E)))
    rw [show zv E a = _ from z_isI_c i1]
    refine key H locs ls _ (fun off k hoff hk => ?_) (fun hout => ?_)
    · obtain ⟨β', m1, m2⟩ := z_tab_in (F := F) (t := t) hok i1 ea (offs.toList.map (z_tgt F.1)) lo' k (z_tgt F.1 off) (by rw [List.getElem?_map, hoff]; rfl) hk
      refine hn (β', (z_tgt F.1 off, F.2.1, t, F.2.2.2)) ?_ m2 G hJ H locs ls ⟨hp.1, hp.2.1, hp.2.2.1, hp.2.2.2⟩
      show _ ∈ Option.rec (motive := fun _ => List (zB × zF)) _ _ (z_dfl a _ _ β)
      cases z_dfl a (offs.toList.map (z_tgt F.1)) lo' β with
      | none => exact m1
      | some b => exact List.mem_cons_of_mem _ m1
    · obtain ⟨β', m1, m2⟩ := z_dfl_ok (a := a) (offs.toList.map (z_tgt F.1)) lo' β hok i1 (by rw [List.length_map]; exact hout)
      refine hn (β', (z_tgt F.1 dflt, F.2.1, t, F.2.2.2)) ?_ m2 G hJ H locs ls ⟨hp.1, hp.2.1, hp.2.2.1, hp.2.2.2⟩
      show _ ∈ Option.rec (motive := fun _ => List (zB × zF)) _ _ (z_dfl a _ _ β)
      rw [m1]
      exact List.mem_cons_self
  | some x =>
    rw [ea] at h
    have h : some (Sum.inl (β, (z_tpc (z_tgt F.1 dflt) lo' (offs.toList.map (z_tgt F.1)) (z_n x), F.2.1, t, F.2.2.2))) = some o := h
    rw [← Option.some.inj h] at hn
    clear h
    have hn : zWp p l e0 R s m args below meth c Q E J (zm_L M) β (z_tpc (z_tgt F.1 dflt) lo' (offs.toList.map (z_tgt F.1)) (z_n x), F.2.1, t, F.2.2.2) := hn
    intro hok G hJ H locs ls hp
    rw [hs, z_cI_some ea]
    refine key H locs ls x (fun off k hoff hk => ?_) (fun hout => ?_)
    · rw [z_tpc_in (g := z_tgt F.1 off) (by rw [List.getElem?_map, hoff]; rfl) hk] at hn
      exact hn hok G hJ H locs ls ⟨hp.1, hp.2.1, hp.2.2.1, hp.2.2.2⟩
    · rw [z_tpc_out (by rw [List.length_map]; exact hout)] at hn
      exact hn hok G hJ H locs ls ⟨hp.1, hp.2.1, hp.2.2.1, hp.2.2.2⟩
theorem zs_Tab {dflt lo hi : Int} {offs : Array Int} {len : Nat} (hC : zCtx p R s m args c E M) (hl : ((offs.toList.length : Nat) : Int) = hi - lo + 1 ∧ -1000 ≤ lo ∧ hi ≤ 1000) (hj : (F.1 : Int) + dflt = (z_tgt F.1 dflt : Int) ∧ ∀ off ∈ offs.toList, (F.1 : Int) + off = (z_tgt F.1 off : Int))
    (hdg : decode (zm_b M) F.1 = .ok (.tableswitch dflt lo hi offs, len)) (h : z_aTab (z_tgt F.1 dflt) (z_n (Int32.ofInt lo)) (offs.toList.map (z_tgt F.1)) β F = some o) (hn : zNx (zWp p l e0 R s m args below meth c Q E J (zm_L M)) PR PC o) : zWp p l e0 R s m args below meth c Q E J (zm_L M) β F := by
  have elo : (z_n (Int32.ofInt lo) : Int) = lo + 2147483648 := by
    rw [z_n_int, Int32.toInt_ofInt_of_le (by omega) (by have := hl.1; omega)]
  generalize z_n (Int32.ofInt lo) = lo' at elo h
  exact zs_TabA elo hC hl.1 hj hdg h hn
theorem z_lk_in : ∀ (ps : List (Int × Int)) (d k : Int), Op.lookupswitch.offset ps d k = d ∨ ∃ q ∈ ps, Op.lookupswitch.offset ps d k = q.2
  | [], d, k => Or.inl rfl
  | q :: ps, d, k => by
    rw [show q :: ps = (q.1, q.2) :: ps from rfl, Op.lookupswitch.offset_cons]
    by_cases h : q.1 = k
    · rw [if_pos h]; exact Or.inr ⟨q, List.mem_cons_self, rfl⟩
    · rw [if_neg h]
      rcases z_lk_in ps d k with e | ⟨r, hr, e⟩
      · exact Or.inl e
      · exact Or.inr ⟨r, List.mem_cons_of_mem _ hr, e⟩
theorem zs_Lku {d : Int} {ps : Array (Int × Int)} {len : Nat} (hC : zCtx p R s m args c E M) (hl : (ps.toList.zip (ps.toList.drop 1)).all (fun (a, next) => a.1 < next.1) = true) (hj : (F.1 : Int) + d = (z_tgt F.1 d : Int) ∧ ∀ q ∈ ps.toList, (F.1 : Int) + q.2 = (z_tgt F.1 q.2 : Int)) (hdg : decode (zm_b M) F.1 = .ok (.lookupswitch d ps, len)) (h : z_aLku F.1 d ps.toList β F = some o) (hn : zNx (zWp p l e0 R s m args below meth c Q E J (zm_L M)) PR PC o) : zWp p l e0 R s m args below meth c Q E J (zm_L M) β F := by
  obtain ⟨hx, hb, -⟩ := hC
  obtain ⟨a, t, hs, h⟩ := z_lc_some h
  obtain ⟨x, ea, h⟩ := z_ob_some h
  cases h
  intro hok G hJ H locs ls hp
  rw [hs, z_cI_some ea]
  refine lv_lookup hx hb hdg hl rfl ?_ (hn hok G hJ H locs ls ⟨hp.1, hp.2.1, hp.2.2.1, hp.2.2.2⟩)
  rcases z_lk_in ps.toList d x.toInt with e | ⟨q, hq, e⟩
  · rw [e]; exact hj.1
  · rw [e]; exact hj.2 q hq
end
