/-! the checker is sound: stores into rows, and the machine's own helpers -/
section
variable {S : Nat → Int32} {Ms : List zM} {d : Nat} {M : zM} {L : zR → Prop} {X0 : zH} {m n1 : Nat} {v1 : Nat → Int} {e : zE}
def q_stok (S : Nat → Int32) (X0 : zH) (m : Nat) (f : Nat → qV → (qW → qV → Bool) → qW → Bool) (g : zH → Nat → zV → Option zV) : Prop := ∀ {X : zH} {ty : Nat} {a : qV} {k : qW → qV → Bool} {w : qW} {v : Nat → Int} {z : zV}, f ty a k w = true → q_wg S X0 m v w X → q_rg w.1 v a z → ∃ w' a' v' z', k w' a' = true ∧ q_ext w.1 v w'.1 v' ∧ q_wg S X0 m v' w' X ∧ q_rg w'.1 v' a' z' ∧ g X ty z = some z'
theorem q_aSto_ok {f : Nat → qV → (qW → qV → Bool) → qW → Bool} {g : zH → Nat → zV → Option zV} (hs : q_stp S Ms d M L e) (he : z_act S Ms M e = z_aSto g) (hf : q_stok S X0 m f g) : q_aok S Ms d M L X0 m n1 v1 e (q_aSto m f) := by
  refine q_aok_of fun K pc ls st w v cls cst X h hK hn hv hl hst hw hpc => ?_
  simp only [q_aSto, q_ca_eq, q_lc_iff, q_and_iff, q_fn_eq, q_ob_iff, q_not_iff] at h
  obtain ⟨a, s, e1, i, s', e2, o, t, e2', h1, h2, r, h3, h4, h5, h⟩ := h
  subst e1; subst e2; subst e2'
  obtain ⟨za, s1, e3, ga, g2⟩ := hst.cons
  subst e3
  obtain ⟨zi, s2, e4, gi, g4⟩ := g2.cons
  subst e4
  obtain ⟨zo, s3, e4, g1, g5⟩ := g4.cons
  subst e4
  obtain ⟨k, e5, dk, hr⟩ := g1.r h1
  subst e5
  obtain ⟨x, e6, dx⟩ := gi.i h2
  subst e6
  have i1 : (Int.ofNat 1 : Int) = 1 := rfl
  have is1 : ∀ a b : Int, Int.sub a b = a - b := fun _ _ => rfl
  obtain ⟨w1, a1, u1, z1, k1, k2, k3, k4, k5⟩ := hf h hw ga
  simp only [q_sto, q_cw_eq, q_and_iff, q_fn_eq] at k1
  obtain ⟨c1, c2, c3⟩ := k1
  obtain ⟨d1, d2, d3, u, d4⟩ := q_row hw hr h3 (q_beq_iff.mp h4) (z_nbeq h5)
  have b1 := k3.pr (dx.ext k2) c1
  have b2 := k3.pr ((dx.ext k2).ng.pl _) c2
  rw [is1, i1] at b2
  have b3 : (Int.ofNat r.2.2.1 : Int) = ((r.2.2.1 : Nat) : Int) := rfl
  obtain ⟨y1, y2⟩ := z_in_of (i := x) (n := r.2.2.1) b1 (by omega)
  have hj : x.toBitVec.toNat < q_len k := by rw [d2]; omega
  obtain ⟨w2, m1, m2, m3⟩ := q_wr_ok (kc := k) (j := x.toBitVec.toNat) c3 k3 (dk.ext k2) (by rw [y2]; exact dx.ext k2) (d3 _) d1 hj k4 (q_set_a (z := z1) hw.inv.1 d1 d4)
  refine hs _ (Nat.add pc 1, cls, s3, z_hs X k (some (.inl (r.2.1, r.2.2.1, z_ins u x.toBitVec.toNat z1))), zm_mc M, zm_ms M) hpc ?_ ?_
  · rw [he]
    show z_arr X k (fun ty len u => z_if (z_in x len) (z_ob (g X ty za) fun w => z_goH [] (pc, cls, za :: Sum.inl (Value.int x) :: Sum.inl (Value.ref k) :: s3, X, zm_mc M, zm_ms M) 1 s3 (z_hs X k (some (.inl (ty, len, z_ins u x.toBitVec.toNat w))))) none) = _
    rw [q_arr_of (by rw [hw.inv.1]; exact d1) d4, y1, k5]
    rfl
  · have e2 : q_ext w.1 v w2.1 u1 := by rw [m2]; exact k2
    exact hK.go m1 hn hv e2 (hl.ext e2) (g5.ext e2) m3
theorem q_si_ok : q_stok S X0 m q_si z_si := by
  intro X ty a k w v z h hw ha
  obtain ⟨h1, h2⟩ := q_and_iff.mp (show q_and (Nat.beq ty 0) (q_and (q_tI a) (k w a)) = true from h)
  obtain ⟨h2, h3⟩ := q_and_iff.mp h2
  refine ⟨w, a, v, z, h3, q_ext.refl _ _, hw, ha, ?_⟩
  show z_if (Nat.beq ty 0) (z_if (z_isI z) (some z) none) none = _
  rw [h1, q_kInt ha h2]
theorem q_sl_ok : q_stok S X0 m q_sl z_sl := by
  intro X ty a k w v z h hw ha
  obtain ⟨h1, h2⟩ := q_and_iff.mp (show q_and (Nat.beq ty 3) (q_and (q_tL a) (k w a)) = true from h)
  obtain ⟨h2, h3⟩ := q_and_iff.mp h2
  refine ⟨w, a, v, z, h3, q_ext.refl _ _, hw, ha, ?_⟩
  show z_if (Nat.beq ty 3) (z_if (z_isL z) (some z) none) none = _
  rw [h1, q_kLg ha h2]
theorem q_sa_ok : q_stok S X0 m q_sa z_sa := by
  intro X ty a k w v z h hw ha
  obtain ⟨h1, h2⟩ := q_and_iff.mp (show q_and (Nat.beq ty 4) (q_and (q_tR a) (q_and (Nat.beq a.2.1 10) (k w a))) = true from h)
  obtain ⟨h2, h3⟩ := q_and_iff.mp h2
  obtain ⟨h3, h4⟩ := q_and_iff.mp h3
  refine ⟨w, a, v, z, h4, q_ext.refl _ _, hw, ha, ?_⟩
  obtain ⟨q, e1, _, hr⟩ := ha.r h2
  subst e1
  have e10 := hr.trans (q_beq_iff.mp h3)
  have hk := q_cell e10 (by omega) (by omega)
  have er : q_rk (q_reg q) = (1, 9, 1, 42) := by rw [e10]; decide +kernel
  obtain ⟨fs, f1, _⟩ := (hw.inv.2.1 q hk).1 (by rw [er])
  rw [er] at f1
  show z_if (Nat.beq ty 4) (z_obj X q fun c _ => z_if (Nat.beq c 9) (some (Sum.inl (Value.ref q))) none) none = _
  rw [h1, q_obj_of (by rw [hw.inv.1]; exact hk) f1]
  rfl
theorem q_bool (x : Int32) : (0 ≤ (x &&& 1).toInt ∧ (x &&& 1).toInt ≤ 1) ∧ (0 ≤ x.toInt → x.toInt ≤ 1 → (x &&& 1).toInt = x.toInt) := by
  have e1 : (1 : Int32).toInt = 1 := by decide
  obtain ⟨h1, h2⟩ := q_and_le (a := x) (b := 1) (by omega)
  refine ⟨⟨h1, by omega⟩, fun g1 g2 => ?_⟩
  exact q_and_mask (a := x) (b := 1) 1 (by omega) (by rw [e1]; rfl) g1 (by omega)
theorem q_sb_ok : q_stok S X0 m q_sb' z_sb := by
  intro X ty a k w v z h hw ha
  obtain ⟨h1, h2⟩ := q_and_iff.mp (show q_and (q_tI a) (z_if (Nat.beq ty 1) (q_nar (Int.negSucc 127) (Int.ofNat 127) a.2.2.1 (fun w l => k w (q_vi l)) w) (z_if (Nat.beq ty 2) (q_nar (Int.ofNat 0) (Int.ofNat 1) a.2.2.1 (fun w l => k w (q_vi l)) w) false)) = true from h)
  obtain ⟨x, e1, dx⟩ := ha.i h1
  subst e1
  rcases q_if_iff.mp h2 with ⟨t, h2⟩ | ⟨t, h2⟩
  · obtain ⟨b1, b2⟩ := q_i2b x
    obtain ⟨w', l, v', k1, k2, k3, k4⟩ := q_nar_ok (z := x.toInt8.toInt32.toInt) h2 hw dx b1.1 b1.2 b2
    refine ⟨w', _, v', .inl (.int x.toInt8.toInt32), k1, k2, k3, q_rg_vi k4, ?_⟩
    show z_if (Nat.beq ty 1) (z_op1 (vp_nar .byte) (.inl (.int x))) _ = _
    rw [t]
    exact z_op1_int (vp_nar .byte) x
  · rcases q_if_iff.mp h2 with ⟨t2, h2⟩ | ⟨_, h2⟩
    · obtain ⟨b1, b2⟩ := q_bool x
      obtain ⟨w', l, v', k1, k2, k3, k4⟩ := q_nar_ok (z := (x &&& 1).toInt) h2 hw dx b1.1 b1.2 b2
      refine ⟨w', _, v', .inl (.int (x &&& 1)), k1, k2, k3, q_rg_vi k4, ?_⟩
      show z_if (Nat.beq ty 1) _ (z_if (Nat.beq ty 2) (z_op1 (vp_nar .boolean) (.inl (.int x))) none) = _
      rw [t, t2]
      exact z_op1_int (vp_nar .boolean) x
    · cases h2
/-! what changes at some places alone -/
theorem q_mflt_ok {mm : Nat} (fs : List qFa) : ∀ {k : List qFa → Bool}, q_mflt mm fs k = true → ∃ fs', k fs' = true ∧ ∀ f ∈ fs', f ∈ fs ∧ Nat.testBit mm f.1 = false := by
  induction fs with
  | nil => intro k h; exact ⟨[], h, fun f hf => by cases hf⟩
  | cons f t ih =>
    intro k h
    rcases q_if_iff.mp (show z_if (Nat.testBit mm f.1) (q_mflt mm t k) (q_mflt mm t fun s => k (f :: s)) = true from h) with ⟨_, h1⟩ | ⟨h0, h1⟩
    · obtain ⟨fs', k1, k2⟩ := ih h1
      exact ⟨fs', k1, fun f' hf => ⟨List.mem_cons_of_mem _ (k2 f' hf).1, (k2 f' hf).2⟩⟩
    · obtain ⟨fs', k1, k2⟩ := ih h1
      refine ⟨f :: fs', k1, fun f' hf => ?_⟩
      rcases List.mem_cons.mp hf with e | e
      · rw [e]; exact ⟨List.mem_cons_self .., h0⟩
      · exact ⟨List.mem_cons_of_mem _ (k2 f' e).1, (k2 f' e).2⟩
theorem q_gflt_ok {mm : Nat} (gs : List qGh) : ∀ {k : List qGh → Bool}, q_gflt mm gs k = true → ∃ gs', k gs' = true ∧ ∀ g ∈ gs', g ∈ gs ∧ ∃ x, z_nth q_gfs g.1 = some x ∧ ∀ p, Nat.testBit x p = true → Nat.testBit mm p = false := by
  induction gs with
  | nil => intro k h; exact ⟨[], h, fun f hf => by cases hf⟩
  | cons g t ih =>
    intro k h
    obtain ⟨x, hx, h⟩ := q_ob_iff.mp (show q_ob (z_nth q_gfs g.1) (fun x => z_if (Nat.beq (Nat.land x mm) 0) (q_gflt mm t fun s => k (g :: s)) (q_gflt mm t k)) = true from h)
    rcases q_if_iff.mp h with ⟨h0, h1⟩ | ⟨_, h1⟩
    · obtain ⟨gs', k1, k2⟩ := ih h1
      refine ⟨g :: gs', k1, fun g' hg => ?_⟩
      rcases List.mem_cons.mp hg with e | e
      · rw [e]
        refine ⟨List.mem_cons_self .., x, hx, fun p hp => ?_⟩
        have h2 : x &&& mm = 0 := q_beq_iff.mp h0
        have h3 : Nat.testBit (x &&& mm) p = false := by rw [h2]; exact Nat.zero_testBit p
        rw [Nat.testBit_and, hp] at h3
        simpa using h3
      · exact ⟨List.mem_cons_of_mem _ (k2 g' e).1, (k2 g' e).2⟩
    · obtain ⟨gs', k1, k2⟩ := ih h1
      exact ⟨gs', k1, fun g' hg => ⟨List.mem_cons_of_mem _ (k2 g' hg).1, (k2 g' hg).2⟩⟩
theorem q_chg {mm : Nat} {X X' : zH} {w : qW} {v : Nat → Int} {fs' : List qFa} {gs' : List qGh} (hw : q_wg S X0 m v w X) (hch : q_frm X mm X') (hinv : q_inv S X') (hsub : ∀ p, Nat.testBit mm p = true → Nat.testBit m p = true) (hf : ∀ f ∈ fs', f ∈ w.2.2.2.1 ∧ Nat.testBit mm f.1 = false) (hg : ∀ g ∈ gs', g ∈ w.2.2.2.2 ∧ ∃ x, z_nth q_gfs g.1 = some x ∧ ∀ p, Nat.testBit x p = true → Nat.testBit mm p = false) : q_wg S X0 m v (w.1, w.2.1, w.2.2.1, fs', gs') X' := fun v' hv => by
  obtain ⟨a1, a2, a3, a4, a5, a6⟩ := hw v' hv
  refine ⟨a1, a2, hinv, fun k j hk hb => ?_, fun f h => ?_, fun g h => ?_⟩
  · have hb2 : Nat.testBit mm (q_plc k j) = false := by
      cases h : Nat.testBit mm (q_plc k j) with
      | false => rfl
      | true => rw [hsub _ h] at hb; cases hb
    rw [hch k j hk hb2]
    exact a4 k j hk hb
  · obtain ⟨h1, h2⟩ := hf f h
    obtain ⟨k, j, g1, g2, g3, g4, g5⟩ := a5 f h1
    refine ⟨k, j, g1, g2, g3, ?_, g5⟩
    rcases g5 with g5 | g5
    · rw [q_slot_h g5, hch k j g5 (by rw [g3]; exact h2), ← q_slot_h (S := S) g5]
      exact g4
    · subst g5
      rw [q_slot_s]
      rw [q_slot_s] at g4
      exact g4
  · obtain ⟨h1, x, h2, h3⟩ := hg g h
    exact q_gframe h2 (fun k j hk hb => hch k j hk (h3 _ hb)) (a6 g h1)
/-! the machine's own helpers -/
theorem q_cat_le {n : Nat} {v : Nat → Int} {a : qV} {z : zV} (h : q_rg n v a z) : z_cat z ≤ q_cat a := by
  have h2 : z_cat z ≤ 2 := by
    rcases z with y | y
    · cases y with
      | int _ => exact (by decide : 1 ≤ 2)
      | long _ => exact (by decide : 2 ≤ 2)
      | float _ => exact (by decide : 1 ≤ 2)
      | double _ => exact (by decide : 2 ≤ 2)
      | null => exact (by decide : 1 ≤ 2)
      | ref _ => exact (by decide : 1 ≤ 2)
      | retAddr _ => exact (by decide : 1 ≤ 2)
    · exact (by decide : 1 ≤ 2)
  show z_cat z ≤ z_if (q_or (q_c1 a) (Nat.beq a.1 6)) 1 2
  cases h1 : q_or (q_c1 a) (Nat.beq a.1 6) with
  | false => exact h2
  | true =>
    rcases q_or_iff.mp h1 with h3 | h3
    · rw [q_kc1 h h3]
      exact Nat.le_refl 1
    · have := (h v (q_agr.refl _ _)).2.2.2.2.2 (q_beq_iff.mp h3)
      rw [this]
      exact Nat.le_refl 1
theorem q_sum_ok {n : Nat} {v : Nat → Int} (st : List qV) : ∀ {cst : List zV}, q_stg n v st cst → z_sum cst ≤ q_sum st := by
  induction st with
  | nil => intro cst h; rw [h.nil]; exact Nat.le_refl _
  | cons a t ih =>
    intro cst h
    obtain ⟨z, s, e1, g1, g2⟩ := h.cons
    subst e1
    show Nat.add (z_cat z) (z_sum s) ≤ Nat.add (q_cat a) (q_sum t)
    exact Nat.add_le_add (q_cat_le g1) (ih g2)
theorem q_sum8 {n : Nat} {v : Nat → Int} {st : List qV} {cst : List zV} (h : q_stg n v st cst) (h8 : Nat.ble (q_sum st) 8 = true) : Nat.ble (z_sum cst) 8 = true := Nat.ble_eq_true_of_le (Nat.le_trans (q_sum_ok st h) (z_ble h8))
theorem q_aMin_ok (hs : q_stp S Ms d M L e) (he : z_act S Ms M e = z_aM2 (fun x y => if y < x then y else x) (zm_mc M) (zm_ms M)) : q_aok S Ms d M L X0 m n1 v1 e q_aMin := by
  refine q_aok_of fun K pc ls st w v cls cst X h hK hn hv hl hst hw hpc => ?_
  simp only [q_aMin, q_ca_eq, q_lc_iff, q_and_iff, q_cw_eq] at h
  obtain ⟨b, s, e1, a, t, e2, h1, h2, h3, h⟩ := h
  subst e1; subst e2
  obtain ⟨zb, s1, e3, g1, g2⟩ := hst.cons
  subst e3
  obtain ⟨za, s2, e4, g3, g4⟩ := g2.cons
  subst e4
  obtain ⟨xb, e5, db⟩ := g1.i h2
  obtain ⟨xa, e6, da⟩ := g3.i h1
  subst e5; subst e6
  obtain ⟨a1, a2, l1, l2, h⟩ := hw.rng da h
  obtain ⟨b1, b2, m1, m2, h⟩ := hw.rng db h
  rw [q_fi_eq, q_fi_eq] at h
  have val : (if xb < xa then xb else xa).toInt ≤ xa.toInt ∧ (if xb < xa then xb else xa).toInt ≤ xb.toInt ∧ ((if xb < xa then xb else xa).toInt = xa.toInt ∨ (if xb < xa then xb else xa).toInt = xb.toInt) := by
    have hlt : xb < xa ↔ xb.toInt < xa.toInt := Int32.lt_iff_toInt_lt
    by_cases c : xb < xa
    · rw [if_pos c]
      have := hlt.mp c
      omega
    · rw [if_neg c]
      have : ¬ xb.toInt < xa.toInt := fun q => c (hlt.mpr q)
      omega
  have n1' := q_mn_le a1 b1
  obtain ⟨w', l, v', k1, k2, k3, k4⟩ := q_fr_ok (z := (if xb < xa then xb else xa).toInt) h hw (by omega) (q_mn_ge (by omega) (by omega)) (fun v' hv hn c hc => by
    rcases List.mem_cons.mp hc with e | e
    · rw [e, q_ev_sub, q_ev_v, hn, da v' hv]; omega
    · rw [List.mem_singleton.mp e, q_ev_sub, q_ev_v, hn, db v' hv]; omega)
  rw [q_fn_eq] at k1
  refine hs _ (Nat.add pc 3, cls, .inl (.int (if xb < xa then xb else xa)) :: s2, X, zm_mc M, zm_ms M) hpc ?_ (hK.go k1 hn hv k2 (hl.ext k2) (q_stg.mk (q_rg_vi k4) (g4.ext k2)) k3)
  rw [he]
  show z_ob (z_op2 _ (.inl (.int xa)) (.inl (.int xb))) (fun c => z_if (Nat.ble (z_sum s2) 8) (z_if (Nat.ble (zm_mc M) (zm_mc M)) (z_if (Nat.ble (zm_ms M) (zm_ms M)) (z_go [] (pc, cls, Sum.inl (Value.int xb) :: Sum.inl (Value.int xa) :: s2, X, zm_mc M, zm_ms M) 3 (c :: s2)) none) none) none) = _
  rw [z_op2_int, q_sum8 g4 h3, show Nat.ble (zm_mc M) (zm_mc M) = true from Nat.ble_eq_true_of_le (Nat.le_refl _), show Nat.ble (zm_ms M) (zm_ms M) = true from Nat.ble_eq_true_of_le (Nat.le_refl _)]
  rfl
theorem q_aMax_ok (hs : q_stp S Ms d M L e) (he : z_act S Ms M e = z_aM2 (fun x y => if x < y then y else x) (zm_mc M) (zm_ms M)) : q_aok S Ms d M L X0 m n1 v1 e q_aMax := by
  refine q_aok_of fun K pc ls st w v cls cst X h hK hn hv hl hst hw hpc => ?_
  simp only [q_aMax, q_ca_eq, q_lc_iff, q_and_iff, q_cw_eq] at h
  obtain ⟨b, s, e1, a, t, e2, h1, h2, h3, h⟩ := h
  subst e1; subst e2
  obtain ⟨zb, s1, e3, g1, g2⟩ := hst.cons
  subst e3
  obtain ⟨za, s2, e4, g3, g4⟩ := g2.cons
  subst e4
  obtain ⟨xb, e5, db⟩ := g1.i h2
  obtain ⟨xa, e6, da⟩ := g3.i h1
  subst e5; subst e6
  obtain ⟨a1, a2, l1, l2, h⟩ := hw.rng da h
  obtain ⟨b1, b2, m1, m2, h⟩ := hw.rng db h
  rw [q_fi_eq, q_fi_eq] at h
  have val : xa.toInt ≤ (if xa < xb then xb else xa).toInt ∧ xb.toInt ≤ (if xa < xb then xb else xa).toInt ∧ ((if xa < xb then xb else xa).toInt = xa.toInt ∨ (if xa < xb then xb else xa).toInt = xb.toInt) := by
    have hlt : xa < xb ↔ xa.toInt < xb.toInt := Int32.lt_iff_toInt_lt
    by_cases c : xa < xb
    · rw [if_pos c]
      have := hlt.mp c
      omega
    · rw [if_neg c]
      have : ¬ xa.toInt < xb.toInt := fun q => c (hlt.mpr q)
      omega
  have n1' := q_mx_le a2 b2
  obtain ⟨w', l, v', k1, k2, k3, k4⟩ := q_fr0_ok (z := (if xa < xb then xb else xa).toInt) h hw (q_mx_ge (by omega) (by omega)) (by omega)
  rw [q_fn_eq] at k1
  refine hs _ (Nat.add pc 3, cls, .inl (.int (if xa < xb then xb else xa)) :: s2, X, zm_mc M, zm_ms M) hpc ?_ (hK.go k1 hn hv k2 (hl.ext k2) (q_stg.mk (q_rg_vi k4) (g4.ext k2)) k3)
  rw [he]
  show z_ob (z_op2 _ (.inl (.int xa)) (.inl (.int xb))) (fun c => z_if (Nat.ble (z_sum s2) 8) (z_if (Nat.ble (zm_mc M) (zm_mc M)) (z_if (Nat.ble (zm_ms M) (zm_ms M)) (z_go [] (pc, cls, Sum.inl (Value.int xb) :: Sum.inl (Value.int xa) :: s2, X, zm_mc M, zm_ms M) 3 (c :: s2)) none) none) none) = _
  rw [z_op2_int, q_sum8 g4 h3, show Nat.ble (zm_mc M) (zm_mc M) = true from Nat.ble_eq_true_of_le (Nat.le_refl _), show Nat.ble (zm_ms M) (zm_ms M) = true from Nat.ble_eq_true_of_le (Nat.le_refl _)]
  rfl
theorem q_aAbs_ok {f : Int32 → Int32} (hs : q_stp S Ms d M L e) (he : z_act S Ms M e = z_aM1 f (zm_mc M) (zm_ms M)) : q_aok S Ms d M L X0 m n1 v1 e q_aAbs := by
  refine q_aok_of fun K pc ls st w v cls cst X h hK hn hv hl hst hw hpc => ?_
  simp only [q_aAbs, q_ca_eq, q_lc_iff, q_and_iff] at h
  obtain ⟨a, t, e2, h1, h3, h⟩ := h
  subst e2
  obtain ⟨za, s2, e4, g3, g4⟩ := hst.cons
  subst e4
  obtain ⟨xa, e6, da⟩ := g3.i h1
  subst e6
  obtain ⟨w', l, v', k1, k2, k3, k4⟩ := q_any0_ok h hw (f xa)
  have k1 : q_fn (Nat.add pc 3) (fun pc => K (pc, ls, q_vi l :: t, w')) = true := k1
  rw [q_fn_eq] at k1
  refine hs _ (Nat.add pc 3, cls, .inl (.int (f xa)) :: s2, X, zm_mc M, zm_ms M) hpc ?_ (hK.go k1 hn hv k2 (hl.ext k2) (q_stg.mk (q_rg_vi k4) (g4.ext k2)) k3)
  rw [he]
  show z_ob (z_op1 _ (.inl (.int xa))) (fun c => z_if (Nat.ble (z_sum s2) 8) (z_if (Nat.ble (zm_mc M) (zm_mc M)) (z_if (Nat.ble (zm_ms M) (zm_ms M)) (z_go [] (pc, cls, Sum.inl (Value.int xa) :: s2, X, zm_mc M, zm_ms M) 3 (c :: s2)) none) none) none) = _
  rw [z_op1_int, q_sum8 g4 h3, show Nat.ble (zm_mc M) (zm_mc M) = true from Nat.ble_eq_true_of_le (Nat.le_refl _), show Nat.ble (zm_ms M) (zm_ms M) = true from Nat.ble_eq_true_of_le (Nat.le_refl _)]
  rfl
theorem q_z18 {x : Int32} (h : x.toInt = 18) : x.toBitVec.toNat = 18 := by
  obtain ⟨a, _⟩ := q_nat (x := x) (by omega)
  omega
theorem q_z0 {x : Int32} (h : x.toInt = 0) : x.toBitVec.toNat = 0 := by
  obtain ⟨a, _⟩ := q_nat (x := x) (by omega)
  omega
theorem q_aCpy_ok (hs : q_stp S Ms d M L e) (he : z_act S Ms M e = z_aCpy) : q_aok S Ms d M L X0 m n1 v1 e (q_aCpy m) := by
  refine q_aok_of fun K pc ls st w v cls cst X h hK hn hv hl hst hw hpc => ?_
  simp only [q_aCpy, q_ca_eq, q_lc_iff, q_and_iff, q_cw_eq] at h
  obtain ⟨vn, t1, e1, vd, t2, e2, vk, t3, e3, vs, t4, e4, vj, t, e5, ⟨h1, h2, h3, h4, h5⟩, ⟨h6, h7⟩, ⟨h8, h9, h10⟩, h11, h12, h⟩ := h
  subst e1; subst e2; subst e3; subst e4; subst e5
  obtain ⟨z1, s1, e1, g1, g2⟩ := hst.cons
  subst e1
  obtain ⟨z2, s2, e1, g3, g4⟩ := g2.cons
  subst e1
  obtain ⟨z3, s3, e1, g5, g6⟩ := g4.cons
  subst e1
  obtain ⟨z4, s4, e1, g7, g8⟩ := g6.cons
  subst e1
  obtain ⟨z5, s5, e1, g9, g10⟩ := g8.cons
  subst e1
  obtain ⟨xn, e1, dn⟩ := g1.i h1
  subst e1
  obtain ⟨xd, e1, dd⟩ := g3.i h2
  subst e1
  obtain ⟨kk, e1, dk, rk⟩ := g5.r h4
  subst e1
  obtain ⟨xs, e1, ds⟩ := g7.i h3
  subst e1
  obtain ⟨kj, e1, dj, rj⟩ := g9.r h5
  subst e1
  have q1 := q_eq_ok hw.b h8
  have q2 := q_eq_ok hw.b h9
  have q3 := q_eq_ok hw.b h10
  rw [dn.at, q_ev_c] at q1
  rw [dd.at] at q2
  rw [ds.at] at q3
  have q0 : q_ev v q_0 = 0 := rfl
  have y1 := q_z18 (x := xn) q1
  have y2 := q_z0 (x := xd) (by rw [q2]; rfl)
  have y3 := q_z0 (x := xs) (by rw [q3]; rfl)
  have r1 := rk.trans (q_beq_iff.mp h6)
  have r2 := rj.trans (q_beq_iff.mp h7)
  have c1 := q_cell r1 (by omega) (by omega)
  have c2 := q_cell r2 (by omega) (by omega)
  have er : q_rk 11 = (0, 0, 18, 43) := by decide +kernel
  have er1 : q_rk (q_reg kk) = (0, 0, 18, 43) := by rw [r1]; exact er
  have er2 : q_rk (q_reg kj) = (0, 0, 18, 43) := by rw [r2]; exact er
  obtain ⟨u1, f1⟩ := (hw.inv.2.1 kk c1).2 (by rw [er1])
  obtain ⟨u2, f2⟩ := (hw.inv.2.1 kj c2).2 (by rw [er2])
  have l1 : q_len kk = 18 := by show (q_rk (q_reg kk)).2.2.1 = _; rw [er1]
  have l2 : q_len kj = 18 := by show (q_rk (q_reg kj)).2.2.1 = _; rw [er2]
  rw [er1, l1] at f1
  rw [er2, l2] at f2
  have p1 : ∀ j, q_plc kk j = 43 := fun j => by
    unfold q_plc
    rw [er1]; rfl
  have p2 : ∀ j, q_plc kj j = 43 := fun j => by
    unfold q_plc
    rw [er2]; rfl
  have hX : ∀ k', k' < 190 → z_hg (z_hs X kk (some (.inl (0, 18, u2)))) k' = if k' = kk then some (.inl (0, 18, u2)) else z_hg X k' := fun k' h => z_hgs (by omega) (by omega)
  have bm : Nat.testBit 8796093022208 43 = true := by decide +kernel
  have bm2 : ∀ p, Nat.testBit 8796093022208 p = true → p = 43 := fun p hp => by
    have e2 : 8796093022208 = 2 ^ 43 := by decide
    rw [e2, Nat.testBit_two_pow] at hp
    exact (of_decide_eq_true hp).symm
  have hfr : q_frm X 8796093022208 (z_hs X kk (some (.inl (0, 18, u2)))) := fun k' j' hk hb => by
    unfold q_hs
    rw [hX k' hk, if_neg]
    intro e
    rw [e, p1, bm] at hb
    cases hb
  have hinv : q_inv S (z_hs X kk (some (.inl (0, 18, u2)))) := by
    refine ⟨hw.inv.1, fun k' hk => ?_, fun k' j' hk hj => ?_, hw.inv.2.2.2⟩
    · rw [hX k' hk]
      by_cases ek : k' = kk
      · rw [if_pos ek, ek]
        refine ⟨fun h => ?_, fun _ => ⟨u2, by rw [er1, l1]⟩⟩
        rw [er1] at h
        cases h
      · rw [if_neg ek]; exact hw.inv.2.1 k' hk
    · by_cases ek : k' = kk
      · have e2 : q_hs (z_hs X kk (some (.inl (0, 18, u2)))) k' j' = q_hs X kj j' := by
          unfold q_hs
          rw [hX k' hk, if_pos ek, f2]
        rw [e2, ek, p1, ← p2 j']
        exact hw.inv.2.2.1 kj j' c2 (by rw [l2]; rw [ek, l1] at hj; exact hj)
      · have e2 : q_hs (z_hs X kk (some (.inl (0, 18, u2)))) k' j' = q_hs X k' j' := by
          unfold q_hs
          rw [hX k' hk, if_neg ek]
        rw [e2]
        exact hw.inv.2.2.1 k' j' hk hj
  obtain ⟨fs', k1, k2⟩ := q_mflt_ok _ h
  obtain ⟨gs', k3, k4⟩ := q_gflt_ok _ k1
  rw [q_fn_eq] at k3
  refine hs _ (Nat.add pc 3, cls, s5, z_hs X kk (some (.inl (0, 18, u2))), zm_mc M, zm_ms M) hpc ?_ (hK.go k3 hn hv (q_ext.refl _ _) hl g10 (q_chg hw hfr hinv (fun p hp => by rw [bm2 p hp]; exact h12) k2 k4))
  rw [he]
  show z_arr X kj (fun ty len u => z_arr X kk fun ty' len' _ => z_if (Nat.beq ty 0) (z_if (Nat.beq ty' 0) (z_if (Nat.beq len len') (z_if (Nat.beq xn.toBitVec.toNat len) (z_if (Nat.blt len 1000) (z_if (Nat.beq xs.toBitVec.toNat 0) (z_if (Nat.beq xd.toBitVec.toNat 0) (z_if (Nat.ble (z_sum s5) 8) (z_goH [] (pc, cls, Sum.inl (Value.int xn) :: Sum.inl (Value.int xd) :: Sum.inl (Value.ref kk) :: Sum.inl (Value.int xs) :: Sum.inl (Value.ref kj) :: s5, X, zm_mc M, zm_ms M) 3 s5 (z_hs X kk (some (.inl (0, len, u))))) none) none) none) none) none) none) none) none) = _
  rw [q_arr_of (by rw [hw.inv.1]; exact c2) f2, q_arr_of (by rw [hw.inv.1]; exact c1) f1, y1, y2, y3, q_sum8 g10 h11]
  rfl
end
