/-! the checker is sound: instructions on the heap -/
theorem q_ci12 : ∀ t ∈ q_rks, t.1 = 1 → t.2.1 < 12 := by decide +kernel
theorem z_in_of {i : Int32} {n : Nat} (h0 : 0 ≤ i.toInt) (h1 : i.toInt < (n : Int)) : z_in i n = true ∧ (i.toBitVec.toNat : Int) = i.toInt := by
  obtain ⟨a1, a2⟩ := q_nat h0
  refine ⟨?_, a1.symm⟩
  unfold z_in
  rw [show Nat.blt i.toBitVec.toNat 2147483648 = true from Nat.ble_eq_true_of_le a2]
  exact Nat.ble_eq_true_of_le (by show i.toBitVec.toNat + 1 ≤ n; omega)
section
variable {S : Nat → Int32} {Ms : List zM} {d : Nat} {M : zM} {L : zR → Prop} {X0 : zH} {m n1 : Nat} {v1 : Nat → Int} {e : zE}
theorem q_obj_of {X : zH} {k ci : Nat} {fs : List zV} (hk : k < X.1) (h : z_hg X k = some (.inr (ci, fs))) {β : Type} (f : Nat → List zV → Option β) : z_obj X k f = f ci fs := by
  unfold z_obj
  rw [show Nat.blt k X.1 = true from Nat.ble_eq_true_of_le hk, h]
theorem q_arr_of {X : zH} {k ty len : Nat} {u : List (Nat × zV)} (hk : k < X.1) (h : z_hg X k = some (.inl (ty, len, u))) {β : Type} (f : Nat → Nat → List (Nat × zV) → Option β) : z_arr X k f = f ty len u := by
  unfold z_arr
  rw [show Nat.blt k X.1 = true from Nat.ble_eq_true_of_le hk, h]
theorem q_aGet_ok {ci j : Nat} (hs : q_stp S Ms d M L e) (he : z_act S Ms M e = z_if (Nat.beq ci 100) (z_aGetS j) (z_aGet ci j)) : q_aok S Ms d M L X0 m n1 v1 e (q_aGet ci j) := by
  refine q_aok_of fun K pc ls st w v cls cst X h hK hn hv hl hst hw hpc => ?_
  simp only [q_aGet, q_ca_eq, q_lc_iff, q_and_iff, q_fn_eq, q_ob_iff] at h
  obtain ⟨o, t, e1, h1, r, h2, h3, h4, h5, h6⟩ := h
  subst e1
  obtain ⟨zo, s1, e3, g1, g2⟩ := hst.cons
  subst e3
  obtain ⟨k, e5, dk, hr⟩ := g1.r h1
  subst e5
  obtain ⟨er, hlt⟩ := q_rk_of h2
  have t1 := q_beq_iff.mp h3
  have t2 := q_beq_iff.mp h4
  have hmem : r ∈ q_rks := by
    rw [z_nth_eq] at h2
    exact List.mem_of_getElem? h2
  have hc : ci < 12 := by rw [← t2]; exact q_ci12 r hmem t1
  have hr90 : o.2.1 ≠ 90 := fun e => by
    rw [e] at er
    have e2 : q_rk 90 = (0, 0, 3073, 227) := by decide +kernel
    rw [e2] at er
    rw [← er] at t1
    cases t1
  have hk := q_cell hr hlt hr90
  have hsh := hw.inv.2.1 k hk
  have er' : q_rk (q_reg k) = r := by rw [hr]; exact er
  have hlen : q_len k = r.2.2.1 := by show (q_rk (q_reg k)).2.2.1 = _; rw [er']
  obtain ⟨fs, f1, f2⟩ := hsh.1 (by rw [er']; exact t1)
  rw [er', t2] at f1
  have hj : j < q_len k := by rw [hlen]; exact z_blt h5
  have hp : q_plc k j = Nat.add r.2.2.2 j := by
    unfold q_plc
    rw [er', if_pos t1]
    rfl
  obtain ⟨w', a, v', k1, k2, k3, k4⟩ := q_rd_ok (kc := k) (j := j) h6 hw dk (q_den.c' _) hp (Or.inl ⟨hk, hj⟩)
  rw [q_slot_h hk] at k4
  have hfs : fs[j]? = some (q_hs X k j) := by
    unfold q_hs
    rw [f1]
    show fs[j]? = some (fs.getD j (.inl .null))
    rw [List.getD_eq_getElem?_getD]
    have hj2 : j < fs.length := by rw [f2]; exact hj
    rw [List.getElem?_eq_getElem hj2]
    rfl
  refine hs _ (Nat.add pc 3, cls, q_hs X k j :: s1, X, zm_mc M, zm_ms M) hpc ?_ (hK.go k1 hn hv k2 (hl.ext k2) (q_stg.mk k4 (g2.ext k2)) k3)
  rw [he]
  have hb : Nat.beq ci 100 = false := by
    cases hb : Nat.beq ci 100 with
    | false => rfl
    | true => have := q_beq_iff.mp hb; omega
  rw [hb]
  show z_obj X k (fun c fs => z_if (Nat.beq c ci) (z_ob (z_nth fs j) fun v => z_go [] (pc, cls, Sum.inl (Value.ref k) :: s1, X, zm_mc M, zm_ms M) 3 (v :: s1)) none) = _
  rw [q_obj_of (by rw [hw.inv.1]; exact hk) f1]
  rw [q_beq_iff.mpr rfl, z_nth_eq, hfs]
  rfl
theorem q_fok1_ok {ty : FieldType} {X : zH} {w : qW} {v : Nat → Int} {a : qV} {z : zV} (hw : q_wg S X0 m v w X) (ha : q_rg w.1 v a z) (h : q_fok1 (q_fty ty) w.2.1 w.2.2.1 a = true) : z_fit ty z = true := by
  unfold q_fok1 at h
  have bool : ∀ {x : Int32}, 0 ≤ x.toInt → x.toInt ≤ 1 → Nat.ble x.toBitVec.toNat 1 = true := fun h0 h1 => by
    obtain ⟨a1, a2⟩ := q_nat h0
    exact Nat.ble_eq_true_of_le (by omega)
  cases ty with
  | int => exact q_kInt ha (show q_tI a = true from h)
  | long => exact q_kLg ha (show q_tL a = true from h)
  | object c =>
    obtain ⟨k, e1, _⟩ := ha.r (show q_tR a = true from h)
    rw [e1]; rfl
  | array c =>
    obtain ⟨k, e1, _⟩ := ha.r (show q_tR a = true from h)
    rw [e1]; rfl
  | boolean =>
    obtain ⟨h1, h2⟩ := q_and_iff.mp (show q_and (q_tI a) (q_win w.2.1 w.2.2.1 a.2.2.1 (Int.ofNat 0) (Int.ofNat 1)) = true from h)
    obtain ⟨x, e1, e2⟩ := ha.i h1
    obtain ⟨b1, b2⟩ := hw.win e2 h2
    rw [e1]
    exact bool b1 b2
  | byte =>
    obtain ⟨h1, h2⟩ := q_and_iff.mp (show q_and (q_tI a) (q_win w.2.1 w.2.2.1 a.2.2.1 (Int.ofNat 0) (Int.ofNat 127)) = true from h)
    obtain ⟨x, e1, e2⟩ := ha.i h1
    obtain ⟨b1, b2⟩ := hw.win e2 h2
    have b1 : 0 ≤ x.toInt := b1
    have b2 : x.toInt ≤ 127 := b2
    obtain ⟨a1, a2⟩ := q_nat b1
    rw [e1]
    exact Nat.ble_eq_true_of_le (show x.toBitVec.toNat ≤ 127 by omega)
  | char => cases h
  | double => cases h
  | float => cases h
  | short => cases h
theorem q_unt_ok {n : Nat} {v : Nat → Int} {a : qV} {z : zV} (h : q_rg n v a z) : q_rg n v (q_unt a) z := by
  show q_rg n v (z_if (Nat.beq a.1 4) (q_vi a.2.2.1) a) z
  cases h4 : Nat.beq a.1 4 with
  | false => exact h
  | true =>
    obtain ⟨x, e1, e2⟩ := h.i (q_or_iff.mpr (Or.inr h4))
    rw [e1]
    exact q_rg_vi e2
theorem q_aPut_ok {ci j : Nat} {ty : FieldType} (hs : q_stp S Ms d M L e) (he : z_act S Ms M e = z_aPut ci j (z_fit ty)) : q_aok S Ms d M L X0 m n1 v1 e (q_aPut m ci j (q_fty ty)) := by
  refine q_aok_of fun K pc ls st w v cls cst X h hK hn hv hl hst hw hpc => ?_
  simp only [q_aPut, q_ca_eq, q_lc_iff, q_and_iff, q_fn_eq, q_ob_iff, q_cw_eq, q_fv_eq] at h
  obtain ⟨a, s, e1, o, t, e2, h1, r, h2, h3, h4, h5, h6, h7⟩ := h
  subst e1; subst e2
  obtain ⟨za, s1, e3, ga, g2⟩ := hst.cons
  subst e3
  obtain ⟨zo, s2, e4, g1, g4⟩ := g2.cons
  subst e4
  obtain ⟨k, e5, dk, hr⟩ := g1.r h1
  subst e5
  obtain ⟨er, hlt⟩ := q_rk_of h2
  have t1 := q_beq_iff.mp h3
  have t2 := q_beq_iff.mp h4
  have hr90 : o.2.1 ≠ 90 := fun e => by
    rw [e] at er
    have e2 : q_rk 90 = (0, 0, 3073, 227) := by decide +kernel
    rw [e2] at er
    rw [← er] at t1
    cases t1
  have hk := q_cell hr hlt hr90
  have hsh := hw.inv.2.1 k hk
  have er' : q_rk (q_reg k) = r := by rw [hr]; exact er
  have hlen : q_len k = r.2.2.1 := by show (q_rk (q_reg k)).2.2.1 = _; rw [er']
  obtain ⟨fs, f1, f2⟩ := hsh.1 (by rw [er']; exact t1)
  rw [er', t2] at f1
  have hj : j < q_len k := by rw [hlen]; exact z_blt h5
  have hj2 : j < fs.length := by rw [f2]; exact hj
  have hp : q_plc k j = Nat.add r.2.2.2 j := by
    unfold q_plc
    rw [er', if_pos t1]
    rfl
  obtain ⟨w', k1, k2, k3⟩ := q_wr_ok (kc := k) (j := j) h7 hw dk (q_den.c' _) hp hk hj (q_unt_ok ga) (q_set_o (z := za) hw.inv.1 hk f1 hj2)
  refine hs _ (Nat.add pc 3, cls, s2, z_hs X k (some (.inr (ci, z_lst fs za j))), zm_mc M, zm_ms M) hpc ?_ (hK.go0 k1 hn hv k2 hl g4 k3)
  rw [he]
  show z_obj X k (fun c fs => z_if (Nat.beq c ci) (z_if (z_fit ty za) (z_ob (z_nth fs j) fun _ => z_goH [] (pc, cls, za :: Sum.inl (Value.ref k) :: s2, X, zm_mc M, zm_ms M) 3 s2 (z_hs X k (some (.inr (c, z_lst fs za j))))) none) none) = _
  rw [q_obj_of (by rw [hw.inv.1]; exact hk) f1]
  rw [q_beq_iff.mpr rfl, q_fok1_ok hw ga h6, z_nth_eq, List.getElem?_eq_getElem hj2]
  rfl
/-- of a row: its cell, its kind, its length -/
theorem q_row {X : zH} {w : qW} {v : Nat → Int} {o : qV} {r : Nat × Nat × Nat × Nat} {k : Nat} (hw : q_wg S X0 m v w X) (hr : q_reg k = o.2.1) (h2 : z_nth q_rks o.2.1 = some r) (h3 : r.1 = 0) (h9 : o.2.1 ≠ 90) : k < 190 ∧ q_len k = r.2.2.1 ∧ (∀ j, q_plc k j = r.2.2.2) ∧ ∃ u, z_hg X k = some (.inl (r.2.1, r.2.2.1, u)) := by
  obtain ⟨er, hlt⟩ := q_rk_of h2
  have hk := q_cell hr hlt h9
  have er' : q_rk (q_reg k) = r := by rw [hr]; exact er
  have hlen : q_len k = r.2.2.1 := by show (q_rk (q_reg k)).2.2.1 = _; rw [er']
  obtain ⟨u, f1⟩ := (hw.inv.2.1 k hk).2 (by rw [er']; exact h3)
  rw [er', hlen] at f1
  refine ⟨hk, hlen, fun j => ?_, u, f1⟩
  unfold q_plc
  rw [er', if_neg (by rw [h3]; decide)]
theorem q_aLen_ok (hs : q_stp S Ms d M L e) (he : z_act S Ms M e = z_aLen S) : q_aok S Ms d M L X0 m n1 v1 e q_aLen := by
  refine q_aok_of fun K pc ls st w v cls cst X h hK hn hv hl hst hw hpc => ?_
  simp only [q_aLen, q_ca_eq, q_lc_iff, q_and_iff, q_fn_eq] at h
  obtain ⟨o, t, e1, h1, h⟩ := h
  subst e1
  obtain ⟨zo, s1, e3, g1, g2⟩ := hst.cons
  subst e3
  obtain ⟨k, e5, dk, hr⟩ := g1.r h1
  subst e5
  rcases q_if_iff.mp h with ⟨t9, h⟩ | ⟨t9, h⟩
  · have hk := q_cell90 (hr.trans (q_beq_iff.mp t9))
    subst hk
    obtain ⟨w', a, v', k1, k2, k3, k4⟩ := q_rd_ok (kc := 1000000) (j := 3072) h hw dk (q_den.c' _) (by decide +kernel) (Or.inr rfl)
    obtain ⟨t1, k1⟩ := q_and_iff.mp k1
    rw [q_slot_s] at k4
    obtain ⟨x, e6, dx⟩ := k4.i t1
    have e6 : S 3072 = x := Value.int.inj (Sum.inl.inj e6)
    subst e6
    exact hs _ (Nat.add pc 1, cls, .inl (.int (S 3072)) :: s1, X, zm_mc M, zm_ms M) hpc (by rw [he]; rfl) (hK.go k1 hn hv k2 (hl.ext k2) (q_stg.mk (q_rg_vi dx) (g2.ext k2)) k3)
  · simp only [q_ob_iff, q_and_iff] at h
    obtain ⟨r, h2, h3, h4⟩ := h
    obtain ⟨c1, c2, c3, u, c4⟩ := q_row hw hr h2 (q_beq_iff.mp h3) (z_nbeq t9)
    have hmem : r ∈ q_rks := by
      rw [z_nth_eq] at h2
      exact List.mem_of_getElem? h2
    have hty : r.2.1 < 5 ∧ r.2.2.1 < 2147483648 := by
      have hall : ∀ t ∈ q_rks, t.1 = 0 → t.2.1 < 5 ∧ t.2.2.1 < 2147483648 := by decide +kernel
      exact hall r hmem (q_beq_iff.mp h3)
    have et : (Int32.ofNat r.2.2.1).toInt = ((r.2.2.1 : Nat) : Int) := Int32.toInt_ofNat_of_lt hty.2
    refine hs _ (Nat.add pc 1, cls, .inl (.int (Int32.ofNat r.2.2.1)) :: s1, X, zm_mc M, zm_ms M) hpc ?_ (hK.go h4 hn hv (q_ext.refl _ _) hl (q_stg.mk (q_rg_vi (by rw [et]; exact q_den.c' _)) g2) hw)
    rw [he]
    have b0 : ∀ q, 1000000 ≤ q → Nat.beq k q = false := fun q hq => by
      cases hb : Nat.beq k q with
      | false => rfl
      | true => have := q_beq_iff.mp hb; omega
    show z_if (Nat.beq k z_SCR) _ (z_if (Nat.beq k z_STV) _ (z_if (Nat.beq k z_STV2) _ (z_arr X k fun ty len _ => z_if (Nat.blt ty 5) _ none))) = _
    rw [b0 z_SCR (by decide), b0 z_STV (by decide), b0 z_STV2 (by decide)]
    show z_arr X k (fun ty len _ => z_if (Nat.blt ty 5) _ none) = _
    rw [q_arr_of (by rw [hw.inv.1]; exact c1) c4]
    show z_if (Nat.blt r.2.1 5) _ none = _
    rw [show Nat.blt r.2.1 5 = true from Nat.ble_eq_true_of_le hty.1]
    rfl
theorem q_spty : ∀ t ∈ q_rks, t.1 = 0 → ((t.2.1 = 0 ∨ t.2.1 = 1 ∨ t.2.1 = 2) ∧ ((q_sp t.2.2.2).1 = 1 ∨ (q_sp t.2.2.2).1 = 4)) ∨ (t.2.1 = 3 ∧ (q_sp t.2.2.2).1 = 2) ∨ (t.2.1 = 4 ∧ (q_sp t.2.2.2).1 = 3) := by decide +kernel
theorem q_aLda_ok {ok : Nat → Bool} {zf : zA} {zok : zV → Bool} {t1 t2 : Nat} (hs : q_stp S Ms d M L e) (he : z_act S Ms M e = zf) (hok : ∀ ty, ok ty = true → (ty = t1 ∨ ty = t2) ∧ (∀ z, (((ty = 0 ∨ ty = 1 ∨ ty = 2) → ∃ x : Int32, z = .inl (.int x)) ∧ (ty = 3 → ∃ x : Int64, z = .inl (.long x)) ∧ (ty = 4 → ∃ k : Nat, z = .inl (.ref k))) → zok z = true)) (hscr : ok 0 = true → zf = z_aIld S)
    (hz : ∀ (pc : Nat) (cls : zL) (i : Int32) (k : Nat) (t : List zV) (X : zH) (c : Nat × Nat), k < 190 → zf [] (pc, cls, .inl (.int i) :: .inl (.ref k) :: t, X, c) = z_ld t1 t2 zok i k t [] (pc, cls, .inl (.int i) :: .inl (.ref k) :: t, X, c)) : q_aok S Ms d M L X0 m n1 v1 e (q_aLda ok) := by
  refine q_aok_of fun K pc ls st w v cls cst X h hK hn hv hl hst hw hpc => ?_
  simp only [q_aLda, q_ca_eq, q_lc_iff, q_and_iff, q_fn_eq, q_ob_iff] at h
  obtain ⟨i, s, e1, o, t, e2, h1, h2, r, h3, h4, h5, h⟩ := h
  subst e1; subst e2
  obtain ⟨zi, s1, e3, gi, g2⟩ := hst.cons
  subst e3
  obtain ⟨zo, s2, e4, g1, g4⟩ := g2.cons
  subst e4
  obtain ⟨k, e5, dk, hr⟩ := g1.r h1
  subst e5
  obtain ⟨x, e6, dx⟩ := gi.i h2
  subst e6
  have im : (Int.negSucc 0 : Int) = -1 := rfl
  have i1 : (Int.ofNat 1 : Int) = 1 := rfl
  have is1 : ∀ a b : Int, Int.sub a b = a - b := fun _ _ => rfl
  rcases q_if_iff.mp h with ⟨t9, h⟩ | ⟨t9, h⟩
  · have e9 := q_beq_iff.mp t9
    have hk := q_cell90 (hr.trans e9)
    subst hk
    rw [e9] at h3
    have er : r = (0, 0, 3073, 227) := by
      have e2 : z_nth q_rks 90 = some (0, 0, 3073, 227) := by decide +kernel
      rw [e2] at h3
      exact (Option.some.inj h3).symm
    obtain ⟨w1, a, u1, k1, k2, k3, k4⟩ := q_rd_ok (kc := 1000000) (j := 3072) h hw dk (q_den.c' _) (by decide +kernel) (Or.inr rfl)
    simp only [q_cw_eq, q_and_iff] at k1
    obtain ⟨c1, c2, c3, c4⟩ := k1
    rw [q_slot_s] at k4
    obtain ⟨y, e7, dy⟩ := k4.i c1
    have e7 : S 3072 = y := Value.int.inj (Sum.inl.inj e7)
    subst e7
    have b1 := k3.pr (dx.ext k2) c2
    have b2 := k3.pr ((dy.sub (dx.ext k2)).pl _) c3
    rw [im] at b2
    obtain ⟨y1, y2⟩ := q_nat (x := S 3072) (by omega)
    obtain ⟨z1, z2⟩ := z_in_of (i := x) (n := (S 3072).toBitVec.toNat) b1 (by omega)
    obtain ⟨w2, a2, u2, m1, m2, m3, m4⟩ := q_rd_ok (kc := 1000000) (j := x.toBitVec.toNat) c4 k3 (dk.ext k2) (by rw [z2]; exact dx.ext k2) (by
      unfold q_plc
      have e2 : q_rk (q_reg 1000000) = (0, 0, 3073, 227) := by decide +kernel
      rw [e2]; rfl) (Or.inr rfl)
    rw [q_slot_s] at m4
    have ee := k2.trans m2
    refine hs _ (Nat.add pc 1, cls, .inl (.int (S x.toBitVec.toNat)) :: s2, X, zm_mc M, zm_ms M) hpc ?_ (hK.go m1 hn hv ee (hl.ext ee) (q_stg.mk m4 (g4.ext ee)) m3)
    rw [he, hscr (by rw [er] at h5; exact h5)]
    show z_if (z_in x (S 3072).toBitVec.toNat) _ none = _
    rw [z1]
    rfl
  · simp only [q_cw_eq, q_and_iff] at h
    obtain ⟨c2, c3, c4⟩ := h
    obtain ⟨d1, d2, d3, u, d4⟩ := q_row hw hr h3 (q_beq_iff.mp h4) (z_nbeq t9)
    have b1 := hw.pr dx c2
    have b2 := hw.pr (dx.ng.pl _) c3
    rw [is1, i1] at b2
    have b3 : (Int.ofNat r.2.2.1 : Int) = ((r.2.2.1 : Nat) : Int) := rfl
    obtain ⟨z1, z2⟩ := z_in_of (i := x) (n := r.2.2.1) b1 (by omega)
    have hj : x.toBitVec.toNat < q_len k := by rw [d2]; omega
    obtain ⟨w2, a2, u2, m1, m2, m3, m4⟩ := q_rd_ok (kc := k) (j := x.toBitVec.toNat) c4 hw dk (by rw [z2]; exact dx) (d3 _) (Or.inl ⟨d1, hj⟩)
    rw [q_slot_h d1] at m4
    have hel : q_hs X k x.toBitVec.toNat = z_el r.2.1 u x.toBitVec.toNat := by
      unfold q_hs
      rw [d4]
    have hsp := hw.inv.2.2.1 k x.toBitVec.toNat d1 hj
    rw [d3] at hsp
    obtain ⟨o1, o2⟩ := hok r.2.1 h5
    have hmem : r ∈ q_rks := by
      rw [z_nth_eq] at h3
      exact List.mem_of_getElem? h3
    have hzok : zok (z_el r.2.1 u x.toBitVec.toNat) = true := by
      rw [← hel]
      refine o2 _ ⟨fun c => ?_, fun c => ?_, fun c => ?_⟩
      · rcases q_spty r hmem (q_beq_iff.mp h4) with ⟨_, q | q⟩ | ⟨q, _⟩ | ⟨q, _⟩
        · obtain ⟨y, f, _⟩ := hsp.1 q
          exact ⟨y, f⟩
        · obtain ⟨y, f, _⟩ := hsp.2.2.2 q
          exact ⟨y, f⟩
        · omega
        · omega
      · rcases q_spty r hmem (q_beq_iff.mp h4) with ⟨q, _⟩ | ⟨_, q⟩ | ⟨q, _⟩
        · omega
        · exact hsp.2.1 q
        · omega
      · rcases q_spty r hmem (q_beq_iff.mp h4) with ⟨q, _⟩ | ⟨q, _⟩ | ⟨_, q⟩
        · omega
        · omega
        · obtain ⟨y, f, _⟩ := hsp.2.2.1 q
          exact ⟨y, f⟩
    refine hs _ (Nat.add pc 1, cls, q_hs X k x.toBitVec.toNat :: s2, X, zm_mc M, zm_ms M) hpc ?_ (hK.go m1 hn hv m2 (hl.ext m2) (q_stg.mk m4 (g4.ext m2)) m3)
    rw [he, hz _ _ _ _ _ _ _ d1]
    unfold z_ld
    show z_arr X k (fun ty len u => z_if (z_if (Nat.beq ty t1) true (Nat.beq ty t2)) (z_if (z_in x len) (z_if (zok (z_el ty u x.toBitVec.toNat)) _ none) none) none) = _
    rw [q_arr_of (by rw [hw.inv.1]; exact d1) d4]
    show z_if (z_if (Nat.beq r.2.1 t1) true (Nat.beq r.2.1 t2)) (z_if (z_in x r.2.2.1) (z_if (zok (z_el r.2.1 u x.toBitVec.toNat)) _ none) none) none = _
    have hty : z_if (Nat.beq r.2.1 t1) true (Nat.beq r.2.1 t2) = true := by
      rcases o1 with q | q
      · rw [q_beq_iff.mpr q]
      · rw [q_beq_iff.mpr q]
        cases Nat.beq r.2.1 t1 <;> rfl
    rw [hty, z1, hzok, hel]
    rfl
end
