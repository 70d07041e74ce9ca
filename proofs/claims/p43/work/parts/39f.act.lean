/-! the checker is sound: ends, cuts, calls, every instruction -/
theorem q_idl_at {n j : Nat} {x : qL} (h : (q_idl n)[j]? = some x) : j < n ∧ x = (Int.ofNat 0, [(j, Int.ofNat 1)]) := by
  unfold q_idl at h
  rw [List.getElem?_map] at h
  by_cases hj : j < n
  · rw [List.getElem?_range hj] at h
    exact ⟨hj, (Option.some.inj h).symm⟩
  · rw [List.getElem?_eq_none (by rw [List.length_range]; omega)] at h
    cases h
theorem q_idl_len (n : Nat) : (q_idl n).length = n := by
  unfold q_idl
  rw [List.length_map, List.length_range]
/-- the vars that a row of forms stands for -/
def q_val (σ : List qL) (u : Nat → Int) : Nat → Int := fun j => match σ[j]? with
  | some x => q_ev u x
  | none => 0
theorem q_val_rel (σ : List qL) (u v' : Nat → Int) {n : Nat} (hn : σ.length ≤ n) (h : q_agr n (q_val σ u) v') : q_srel σ u v' := fun j x hx => by
  have hj := (List.getElem?_eq_some_iff.mp hx).1
  rw [h j (by omega)]
  show (match σ[j]? with | some x => q_ev u x | none => 0) = _
  rw [hx]
theorem q_val_own {m0 : Nat} {τ : List qL} {u : Nat → Int} : q_agr m0 u (q_val (q_idl m0 ++ τ) u) := fun j hj => by
  have e : (q_idl m0 ++ τ)[j]? = some (Int.ofNat 0, [(j, Int.ofNat 1)]) := by
    rw [List.getElem?_append_left (by rw [q_idl_len]; exact hj)]
    unfold q_idl
    rw [List.getElem?_map, List.getElem?_range hj]
    rfl
  show (match (q_idl m0 ++ τ)[j]? with | some x => q_ev u x | none => 0) = _
  rw [e]
  exact q_ev_v j
section
variable {S : Nat → Int32} {X0 X : zH} {n1 : Nat} {v0 v1 v : Nat → Int} {w : qW} {C : qCon}
theorem q_ret_ok {a : Option qV} {rz : Option zV} (h : q_ret C a w = true) (hm : C.2.1 ≤ n1) (h0 : q_agr C.2.1 v0 v1) (hn : n1 ≤ w.1) (hv : q_agr n1 v1 v) (hw : q_wg S X0 (q_mod C) v w X) (ha : ∀ u, q_agr w.1 v u → q_rok u a rz) : q_LC S C X0 v0 ([], rz, X) := by
  obtain ⟨lf, hlf, h⟩ := q_any_ok h
  refine ⟨lf, hlf, ?_⟩
  unfold q_ret1 at h
  have h := q_fls_ok _ h
  have fin : ∀ {w' : qW} {τ : List qL} {u : Nat → Int}, q_ext w.1 v w'.1 u → q_wg S X0 (q_mod C) u w' X → q_pm (q_idl C.2.1 ++ τ) lf.1 w' = true → (∀ v', q_srel (q_idl C.2.1 ++ τ) u v' → q_rok v' lf.2 rz) → q_lfok S C.2.1 C.2.2.2.2.1 X0 v0 lf ([], rz, X) := fun {w' τ u} he hu hp hr => by
    have hs : q_srel (q_idl C.2.1 ++ τ) u (q_val (q_idl C.2.1 ++ τ) u) := q_val_rel _ _ _ (Nat.le_refl _) (q_agr.refl _ _)
    refine ⟨q_val (q_idl C.2.1 ++ τ) u, ?_, rfl, hu.inv, hu.frm, q_pm_ok hp (hu u (q_agr.refl _ _)) hs, hr _ hs⟩
    exact fun j hj => (q_val_own j hj).trans ((he.2 j (by omega)).trans ((hv j (by omega)).trans (h0 j hj)))
  cases e : lf.2 with
  | none =>
    rw [e] at h
    cases e2 : a with
    | some _ => rw [e2] at h; cases h
    | none =>
      rw [e2] at h
      obtain ⟨w', τ, u, k1, k2, k3⟩ := q_sg_ok _ (show q_sg [] (fun w σ => q_pm σ lf.1 w) lf.1.1 w (q_idl C.2.1) = true from h) hw
      refine fin k2 k3 k1 fun v' _ => ?_
      rw [e]
      have := ha v (q_agr.refl _ _)
      rw [e2] at this
      exact this
  | some p =>
    rw [e] at h
    obtain ⟨a', e2, h⟩ := q_ob_iff.mp h
    obtain ⟨w', τ, u, k1, k2, k3⟩ := q_sg_ok _ h hw
    obtain ⟨k4, k5⟩ := q_and_iff.mp k1
    refine fin k2 k3 k5 fun v' hs => ?_
    rw [e]
    have hr := ha u (k2.2.le (Nat.le_refl _))
    rw [e2] at hr
    obtain ⟨z, z1, z2⟩ := hr
    obtain ⟨b, b1, b2⟩ := q_mvs_ok k4 (k3 u (q_agr.refl _ _)) hs (0, p) (List.mem_singleton.mpr rfl)
    have b1 : some a' = some b := b1
    cases b1
    exact ⟨z, z1, b2 z z2⟩
/-- the state of a cut -/
def q_cst (c : qCut) : qA := (c.1, c.2.2.2.1, [], c.2.1, c.2.2.1.2)
theorem q_arr_ok {cc : Nat × Nat} {cur : Option qL} {A : qA} {F : zF} (h : q_arr C cur A = true) (hm : C.2.1 ≤ n1) (hn : n1 ≤ A.2.2.2.1) (hv : q_agr n1 v1 v) (hg : q_gam S X0 (q_mod C) cc v A F) (hcur : ∀ M0, cur = some M0 → q_den n1 v1 M0 (q_ev v1 M0)) :
    ∃ c ∈ q_cuts C, ∃ v', q_agr C.2.1 v1 v' ∧ q_gam S X0 (q_mod C) cc v' (q_cst c) F ∧ ∀ M0, cur = some M0 → 0 ≤ q_ev v' c.2.2.2.2 ∧ q_ev v' c.2.2.2.2 < q_ev v1 M0 := by
  obtain ⟨c, hc, h⟩ := q_any_ok h
  refine ⟨c, hc, ?_⟩
  unfold q_arr1 at h
  rw [q_ca_eq] at h
  obtain ⟨h1, h⟩ := q_and_iff.mp h
  obtain ⟨h2, h⟩ := q_and_iff.mp h
  have h := q_fls_ok _ h
  have hw : q_wg S X0 (q_mod C) v A.2.2.2 F.2.2.2.1 := fun u hu => (hg u hu).2.2.2.1
  obtain ⟨w', τ, u, k1, k2, k3⟩ := q_sg_ok _ h hw
  simp only [q_and_iff] at k1
  obtain ⟨c1, c2, c3, c4⟩ := k1
  have hlen := z_ble c1
  have hu := k3 u (q_agr.refl _ _)
  obtain ⟨e1, e2, e3, _, e5⟩ := hg u k2.2
  refine ⟨q_val (q_idl C.2.1 ++ τ) u, ?_, fun v3 hv3 => ?_, fun M0 hM => ?_⟩
  · exact fun j hj => (q_val_own j hj).trans ((k2.2 j (by omega)).trans (hv j (by omega)))
  · have hs := q_val_rel (q_idl C.2.1 ++ τ) u v3 hlen hv3
    refine ⟨?_, fun q hq => ?_, ?_, ?_, e5⟩
    · rw [e1]; exact (q_beq_iff.mp h1).symm
    · obtain ⟨a, a1, a2⟩ := q_mvs_ok c2 hu hs q hq
      obtain ⟨z, z1, z2⟩ := e2 (q.1, a) (q_get_mem a1)
      exact ⟨z, z1, a2 z z2⟩
    · rw [q_nil_iff.mp h2] at e3
      exact e3
    · obtain ⟨p1, p2, p3, p4⟩ := q_pm_ok c3 hu hs
      exact ⟨p1, p2, k3.inv, k3.frm, p3, p4⟩
  · rw [hM] at c4
    obtain ⟨l, m1, m2⟩ := q_sbl_ok (show q_sb (q_idl C.2.1 ++ τ) c.2.2.2.2 (fun m => q_cw w' fun _ b cs _ _ => q_and (q_pr2 b cs m) (q_pr2 b cs (q_pl (q_sub M0 m) (Int.negSucc 0)))) = true from c4)
    rw [q_cw_eq] at m1
    obtain ⟨m3, m4⟩ := q_and_iff.mp m1
    have hs := q_val_rel (q_idl C.2.1 ++ τ) u _ (Nat.le_refl _) (q_agr.refl _ _)
    have m3 := q_pr2_ok hu.1 hu.2.1 m3
    have m4 := q_pr2_ok hu.1 hu.2.1 m4
    rw [m2 _ _ hs] at m3
    have hd : q_ev u M0 = q_ev v1 M0 := hcur M0 hM u (q_agr.trans hn hv k2.2)
    have im : (Int.negSucc 0 : Int) = -1 := rfl
    rw [q_ev_pl, q_ev_sub, m2 _ _ hs, hd, im] at m4
    exact ⟨m3, by omega⟩
end
section
variable {S : Nat → Int32} {Ms : List zM} {d : Nat} {M : zM} {L : zR → Prop} {X0 : zH} {m n1 : Nat} {v1 : Nat → Int} {e : zE}
def q_rtp (S : Nat → Int32) (Ms : List zM) (d : Nat) (M : zM) (L : zR → Prop) (e : zE) : Prop := ∀ F r, F.1 = e.1 → z_act S Ms M e [] F = some (.inr (.inr (.inl r))) → L r → zEnds S d M F L
def q_ctp (S : Nat → Int32) (Ms : List zM) (d : Nat) (M : zM) (L : zR → Prop) (e : zE) : Prop := ∀ F q, F.1 = e.1 → z_act S Ms M e [] F = some (.inr (.inr (.inr q))) → (∃ (N : zM) (LC : zR → Prop) (d' : Nat), Ms[q.1]? = some N ∧ zCalled S d' N q.2.1 F.2.2.2.1 LC ∧ d' + 1 ≤ d ∧ ∀ r, LC r → r.1 = [] ∧ zEnds S d M (Nat.add F.1 3, F.2.1, Option.rec (motive := fun _ => List zV) q.2.2 (fun v => v :: q.2.2) r.2.1, r.2.2, Nat.add F.2.2.2.2.1 (zm_mc N), Nat.add F.2.2.2.2.2 (zm_ms N)) L) → zEnds S d M F L
theorem q_no_ok : q_aok S Ms d M L X0 m n1 v1 e q_no := fun K A v F h => by cases h
theorem q_beqr (a : Nat) : Nat.beq a a = true := q_beq_iff.mpr rfl
theorem q_aRet_ok {C : qCon} {v0 : Nat → Int} {ty : Nat} {zok : zV → Bool} (hs : q_rtp S Ms d M (q_LC S C X0 v0) e) (he : z_act S Ms M e = z_aRet zok (zm_mc M) (zm_ms M)) (hzok : ∀ {X : zH} {w : qW} {v : Nat → Int} {a : qV} {z : zV}, q_wg S X0 (q_mod C) v w X → q_rg w.1 v a z → q_fok1 ty w.2.1 w.2.2.1 a = true → zok z = true) (hm : C.2.1 ≤ n1) (h0 : q_agr C.2.1 v0 v1) : q_aok S Ms d M (q_LC S C X0 v0) X0 (q_mod C) n1 v1 e (q_aRet C ty) := by
  refine q_aok_of fun K pc ls st w v cls cst X h hK hn hv hl hst hw hpc => ?_
  simp only [q_aRet, q_ca_eq, q_lc_iff, q_and_iff, q_cw_eq] at h
  obtain ⟨a, t, e1, h1, h2, h3⟩ := h
  rw [q_nil_iff.mp h1] at e1
  subst e1
  obtain ⟨z, s, e3, g1, g2⟩ := hst.cons
  rw [g2.nil] at e3
  subst e3
  refine hs _ ([], some z, X) hpc ?_ (q_ret_ok h3 hm h0 hn hv hw fun u hu => ⟨z, rfl, g1 u hu⟩)
  rw [he]
  show z_if (zok z) (z_if (Nat.beq (zm_mc M) (zm_mc M)) (z_if (Nat.beq (zm_ms M) (zm_ms M)) _ none) none) none = _
  rw [hzok hw g1 h2, q_beqr, q_beqr]
theorem q_aRetV_ok {C : qCon} {v0 : Nat → Int} (hs : q_rtp S Ms d M (q_LC S C X0 v0) e) (he : z_act S Ms M e = z_aRetV (zm_mc M) (zm_ms M)) (hm : C.2.1 ≤ n1) (h0 : q_agr C.2.1 v0 v1) : q_aok S Ms d M (q_LC S C X0 v0) X0 (q_mod C) n1 v1 e (q_aRetV C) := by
  refine q_aok_of fun K pc ls st w v cls cst X h hK hn hv hl hst hw hpc => ?_
  simp only [q_aRetV, q_ca_eq, q_and_iff] at h
  obtain ⟨h1, h3⟩ := h
  rw [q_nil_iff.mp h1] at hst
  rw [hst.nil]
  refine hs _ ([], none, X) hpc ?_ (q_ret_ok h3 hm h0 hn hv hw fun u hu => rfl)
  rw [he]
  show z_if (Nat.beq (zm_mc M) (zm_mc M)) (z_if (Nat.beq (zm_ms M) (zm_ms M)) _ none) none = _
  rw [q_beqr, q_beqr]
theorem q_pop_ok {n : Nat} {v : Nat → Int} (np : Nat) : ∀ {as st : List qV} {cas cst : List zV} {k : List qV → List qV → Bool}, q_pop np as st k = true → q_stg n v as cas → q_stg n v st cst → ∃ as' t cas' ct, k as' t = true ∧ z_pop np cas cst = some (cas', ct) ∧ q_stg n v as' cas' ∧ q_stg n v t ct := by
  induction np with
  | zero => intro as st cas cst k h h1 h2; exact ⟨as, st, cas, cst, h, rfl, h1, h2⟩
  | succ np ih =>
    intro as st cas cst k h h1 h2
    obtain ⟨a, t, e, h⟩ := q_lc_iff.mp (show q_lc st (fun a t => q_pop np (a :: as) t k) = true from h)
    subst e
    obtain ⟨z, s, e, g1, g2⟩ := h2.cons
    subst e
    exact ih h (q_stg.mk g1 h1) g2
abbrev q_co (a : Nat) (cas ct : List zV) : Option zO := some (.inr (.inr (.inr (a, cas, ct))))
theorem q_aCall_ok {kind a1 : Nat} {N : zM} {mm : Nat} {dl : qL} {Cs : List qCon} {D : Int} (hs : q_ctp S Ms d M L e) (hN : Ms[a1]? = some N) (h0 : zm_mc N = 0 ∧ zm_ms N = 0) (he : z_act S Ms M e = z_aInv kind a1 (zm_np N) (zm_mc N) (zm_ms N) (zm_ci N) (zm_mc M) (zm_ms M))
    (hd : q_den n1 v1 dl D) (hD : D.toNat ≤ d) (hCs : ∀ C ∈ Cs, ∀ (v0 : Nat → Int) (cas : List zV) (X : zH), q_entry S C v0 cas X → 1 ≤ q_ev v0 (q_dl C) → q_ev v0 (q_dl C) + 1 ≤ D → zCalled S (q_ev v0 (q_dl C)).toNat N cas X (q_LC S C X v0)) : q_aok S Ms d M L X0 mm n1 v1 e (q_aCall kind (zm_ci N) (zm_np N) mm dl Cs) := by
  refine q_aok_of fun K pc ls st w v cls cst X h hK hn hv hl hst hw hpc => ?_
  simp only [q_aCall, q_ca_eq] at h
  obtain ⟨as, t, cas, ct, h, hp, g1, g2⟩ := q_pop_ok (n := w.1) (v := v) (cas := []) _ h (fun _ _ => rfl) hst
  obtain ⟨h8, h⟩ := q_and_iff.mp h
  obtain ⟨hr, h⟩ := q_and_iff.mp h
  obtain ⟨C, hC, h⟩ := q_any_ok h
  obtain ⟨v0, c1, c2, c3, c4⟩ := q_call1_ok h hw (hd.ext ⟨hn, hv⟩) g1
  refine hs _ (a1, cas, ct) hpc ?_ ⟨N, _, _, hN, hCs C hC v0 cas X c1 c2 c3, ?_, fun r hr => ?_⟩
  · rw [he]
    unfold z_aInv
    show z_ob (z_pop (zm_np N) [] cst) _ = _
    rw [hp]
    have b1 : Nat.ble (Nat.add (zm_mc M) (zm_mc N)) (zm_mc M) = true := Nat.ble_eq_true_of_le (by rw [h0.1]; exact Nat.le_refl _)
    have b2 : Nat.ble (Nat.add (zm_ms M) (zm_ms N)) (zm_ms M) = true := Nat.ble_eq_true_of_le (by rw [h0.2]; exact Nat.le_refl _)
    show z_if (Nat.ble (z_sum ct) 8) (z_if (Nat.ble (Nat.add (zm_mc M) (zm_mc N)) (zm_mc M)) (z_if (Nat.ble (Nat.add (zm_ms M) (zm_ms N)) (zm_ms M)) (z_if (Nat.beq kind 2) (q_co a1 cas ct) (z_lc cas fun o _ => z_ob (z_cR o) fun a => z_if (Nat.beq kind 1) (q_co a1 cas ct) (z_if (Nat.beq (zm_ci N) 100) (z_if (z_if (Nat.beq a z_STR) true (Nat.beq a z_STR2)) (q_co a1 cas ct) none) (z_obj X a fun c _ => z_if (Nat.beq c (zm_ci N)) (q_co a1 cas ct) none)))) none) none) none = _
    rw [q_sum8 g2 h8, b1, b2]
    cases hk : Nat.beq kind 2 with
    | true => rfl
    | false =>
      have hr : q_lc as (fun o _ => z_if (Nat.beq (zm_ci N) 100) (q_and (Nat.beq o.1 6) (Nat.beq o.2.1 0)) (q_and (q_tR o) (z_if (Nat.beq kind 1) true (q_ob (z_nth q_rks o.2.1) fun r => q_and (Nat.beq r.1 1) (Nat.beq r.2.1 (zm_ci N)))))) = true := by
        rw [hk] at hr
        exact hr
      obtain ⟨o, s, e1, hr⟩ := q_lc_iff.mp hr
      subst e1
      obtain ⟨zo, cs, e2, r1, _⟩ := g1.cons
      subst e2
      rcases q_if_iff.mp hr with ⟨hci, hr⟩ | ⟨hci, hr⟩
      · obtain ⟨hr, hr0⟩ := q_and_iff.mp hr
        have ez := (r1 v (q_agr.refl _ _)).2.2.2.2.2 (q_beq_iff.mp hr)
        rw [q_beq_iff.mp hr0] at ez
        rw [ez, hci]
        show z_if (Nat.beq kind 1) _ _ = _
        cases Nat.beq kind 1 <;> rfl
      · obtain ⟨hr1, hr2⟩ := q_and_iff.mp hr
        obtain ⟨k, e5, dk, hrg⟩ := r1.r hr1
        subst e5
        show z_if (Nat.beq kind 1) (q_co a1 _ ct) (z_if (Nat.beq (zm_ci N) 100) _ (z_obj X k fun c _ => z_if (Nat.beq c (zm_ci N)) (q_co a1 _ ct) none)) = _
        cases hk1 : Nat.beq kind 1 with
        | true => rfl
        | false =>
          rw [hk1] at hr2
          obtain ⟨rr, q1, q2⟩ := q_ob_iff.mp hr2
          obtain ⟨q3, q4⟩ := q_and_iff.mp q2
          obtain ⟨er, hlt⟩ := q_rk_of q1
          have t1 := q_beq_iff.mp q3
          have t2 := q_beq_iff.mp q4
          have hr90 : o.2.1 ≠ 90 := fun e => by
            rw [e] at er
            have e2 : q_rk 90 = (0, 0, 3073, 227) := by decide +kernel
            rw [e2] at er
            rw [← er] at t1
            cases t1
          have hkk := q_cell hrg hlt hr90
          have er' : q_rk (q_reg k) = rr := by rw [hrg]; exact er
          obtain ⟨fs, f1, f2⟩ := (hw.inv.2.1 k hkk).1 (by rw [er']; exact t1)
          rw [er', t2] at f1
          rw [hci]
          show z_obj X k (fun c _ => z_if (Nat.beq c (zm_ci N)) (q_co a1 _ ct) none) = _
          rw [q_obj_of (by rw [hw.inv.1]; exact hkk) f1, q_beqr]
  · have c2 : 1 ≤ q_ev v0 (q_dl C) := c2
    have c3 : q_ev v0 (q_dl C) + 1 ≤ D := c3
    omega
  · obtain ⟨e1, w', a, u, k1, k2, k3, k4⟩ := c4 r hr
    refine ⟨e1, ?_⟩
    show zEnds S d M (Nat.add pc 3, cls, Option.rec (motive := fun _ => List zV) ct (fun v => v :: ct) r.2.1, r.2.2, Nat.add (zm_mc M) (zm_mc N), Nat.add (zm_ms M) (zm_ms N)) L
    rw [h0.1, h0.2]
    rw [q_fn_eq] at k1
    cases a with
    | none =>
      have hz : r.2.1 = none := k4 u (q_agr.refl _ _)
      rw [hz]
      exact hK.go k1 hn hv k2 (hl.ext k2) (g2.ext k2) k3
    | some a =>
      obtain ⟨z, z1, _⟩ := k4 u (q_agr.refl _ _)
      rw [z1]
      refine hK.go k1 hn hv k2 (hl.ext k2) (q_stg.mk (fun u' hu => ?_) (g2.ext k2)) k3
      obtain ⟨z', z2, z3⟩ := k4 u' hu
      rw [z1] at z2
      cases z2
      exact z3
end
