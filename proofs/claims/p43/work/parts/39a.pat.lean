/-! the checker is sound: patterns -/
def q_srel (σ : List qL) (v v' : Nat → Int) : Prop := ∀ j x, σ[j]? = some x → v' j = q_ev v x
theorem q_sbt_ok {σ : List qL} (ts : List (Nat × Int)) : ∀ {acc : qL} {k : qL → Bool}, q_sbt σ ts acc k = true → ∃ l', k l' = true ∧ ∀ v v', q_srel σ v v' → q_ev v l' = q_ev v acc + q_et v' ts := by
  induction ts with
  | nil =>
    intro acc k h
    have h : q_fl acc k = true := h
    rw [q_fl_eq] at h
    exact ⟨acc, h, fun v v' _ => by show _ = _ + (0 : Int); omega⟩
  | cons q t ih =>
    intro acc k h
    obtain ⟨x, hx, h⟩ := q_ob_iff.mp (show q_ob (z_nth σ q.1) (fun x => q_sbt σ t (q_add (q_sc q.2 x) acc) k) = true from h)
    rw [z_nth_eq] at hx
    obtain ⟨l', k1, k2⟩ := ih h
    refine ⟨l', k1, fun v v' hs => ?_⟩
    rw [k2 v v' hs, q_ev_add, q_ev_sc, ← hs _ _ hx]
    show _ = _ + (q.2 * v' q.1 + q_et v' t)
    omega
theorem q_sbl_ok {σ : List qL} {l : qL} {k : qL → Bool} (h : q_sb σ l k = true) : ∃ l', k l' = true ∧ ∀ v v', q_srel σ v v' → q_ev v l' = q_ev v' l := by
  obtain ⟨l', k1, k2⟩ := q_sbt_ok _ h
  refine ⟨l', k1, fun v v' hs => ?_⟩
  rw [k2 v v' hs]
  show l.1 + (0 : Int) + _ = l.1 + _
  omega
theorem q_sbv_ok {σ : List qL} {a : qV} {k : qV → Bool} (h : q_sbv σ a k = true) : ∃ a', k a' = true ∧ ∀ v v', q_srel σ v v' → ∀ z, q_rep v' a z ↔ q_rep v a' z := by
  unfold q_sbv at h
  rw [q_fn_eq, q_fn_eq] at h
  obtain ⟨l, h, h1⟩ := q_sbl_ok h
  obtain ⟨n, h, h2⟩ := q_sbl_ok h
  refine ⟨_, h, fun v v' hs z => ?_⟩
  unfold q_rep
  rw [← h1 v v' hs, ← h2 v v' hs]
theorem q_sbs_ok {σ : List qL} (ls : List qL) : ∀ {k : List qL → Bool}, q_sbs σ ls k = true → ∃ ls', k ls' = true ∧ ∀ v v', q_srel σ v v' → ls'.map (q_ev v) = ls.map (q_ev v') := by
  induction ls with
  | nil => intro k h; exact ⟨[], h, fun _ _ _ => rfl⟩
  | cons l t ih =>
    intro k h
    obtain ⟨l', h, h1⟩ := q_sbl_ok (show q_sb σ l (fun l => q_sbs σ t fun t => k (l :: t)) = true from h)
    obtain ⟨t', h, h2⟩ := ih h
    refine ⟨l' :: t', h, fun v v' hs => ?_⟩
    rw [List.map_cons, List.map_cons, h1 v v' hs, h2 v v' hs]
theorem q_fls_ok (ls : List qL) : ∀ {k : List qL → Bool}, q_fls ls k = true → k ls = true := by
  induction ls with
  | nil => intro k h; exact h
  | cons l t ih =>
    intro k h
    have h : q_fl l (fun l => q_fls t fun t => k (l :: t)) = true := h
    rw [q_fl_eq] at h
    exact ih h
theorem q_mv_ok {b : qB} {cs : List qL} {v : Nat → Int} {a c : qV} {z : zV} (hb : q_bok v b) (hc : q_cok v cs) (h : q_mv b cs a c = true) (hz : q_rep v c z) : q_rep v a z := by
  have no : ∀ {i j : Nat} {P : Prop}, a.1 = i → i ≠ j → (a.1 = j → P) := fun h1 h2 h3 => absurd (h1.symm.trans h3) h2
  unfold q_mv at h
  rcases q_if_iff.mp h with ⟨t, _⟩ | ⟨_, h⟩
  · have t := q_beq_iff.mp t
    exact ⟨no t (by decide), no t (by decide), no t (by decide), no t (by decide), no t (by decide), no t (by decide)⟩
  · rcases q_if_iff.mp h with ⟨t, h⟩ | ⟨_, h⟩
    · have t := q_beq_iff.mp t
      obtain ⟨h1, h2⟩ := q_and_iff.mp h
      have h2 := q_eq2_ok hb hc h2
      refine ⟨fun _ => ?_, no t (by decide), no t (by decide), no t (by decide), no t (by decide), no t (by decide)⟩
      rw [h2]
      rcases q_or_iff.mp (show q_or (Nat.beq c.1 1) (Nat.beq c.1 4) = true from h1) with h3 | h3
      · exact hz.1 (q_beq_iff.mp h3)
      · obtain ⟨x, e1, e2, _⟩ := hz.2.2.2.1 (q_beq_iff.mp h3)
        exact ⟨x, e1, e2⟩
    · rcases q_if_iff.mp h with ⟨t, h⟩ | ⟨_, h⟩
      · have t := q_beq_iff.mp t
        obtain ⟨h1, h2⟩ := q_and_iff.mp h
        have h2 := q_eq2_ok hb hc h2
        refine ⟨no t (by decide), fun _ => ?_, no t (by decide), no t (by decide), no t (by decide), no t (by decide)⟩
        rw [h2]
        exact hz.2.1 (q_beq_iff.mp h1)
      · rcases q_if_iff.mp h with ⟨t, h⟩ | ⟨_, h⟩
        · have t := q_beq_iff.mp t
          obtain ⟨h1, h2⟩ := q_and_iff.mp h
          obtain ⟨h2, h3⟩ := q_and_iff.mp h2
          have h3 := q_eq2_ok hb hc h3
          refine ⟨no t (by decide), no t (by decide), fun _ => ?_, no t (by decide), no t (by decide), no t (by decide)⟩
          rw [h3, q_beq_iff.mp h2]
          exact hz.2.2.1 (q_beq_iff.mp h1)
        · rcases q_if_iff.mp h with ⟨t, h⟩ | ⟨_, h⟩
          · have t := q_beq_iff.mp t
            obtain ⟨h1, h2⟩ := q_and_iff.mp h
            obtain ⟨h2, h3⟩ := q_and_iff.mp h2
            have h2 := q_eq2_ok hb hc h2
            have h3 := q_eq2_ok hb hc h3
            refine ⟨no t (by decide), no t (by decide), no t (by decide), fun _ => ?_, no t (by decide), no t (by decide)⟩
            rw [h2, h3]
            exact hz.2.2.2.1 (q_beq_iff.mp h1)
          · obtain ⟨t, h1⟩ := q_and_iff.mp h
            have t := q_beq_iff.mp t
            obtain ⟨h1, h2⟩ := q_and_iff.mp h1
            exact ⟨no t (by decide), no t (by decide), no t (by decide), no t (by decide), no t (by decide), fun _ => by rw [q_beq_iff.mp h2]; exact hz.2.2.2.2.2 (q_beq_iff.mp h1)⟩
theorem q_geq_ok {b : qB} {v : Nat → Int} (hb : q_bok v b) (xs : List qL) : ∀ {ys : List qL}, q_geq b xs ys = true → ys.map (q_ev v) = xs.map (q_ev v) := by
  induction xs with
  | nil =>
    intro ys h
    rw [q_nil_iff.mp (show z_nil ys = true from h)]
  | cons x t ih =>
    intro ys h
    obtain ⟨y, s, e, h⟩ := q_lc_iff.mp (show q_lc ys (fun y ys => q_and (q_eq b x y) (q_geq b t ys)) = true from h)
    obtain ⟨h1, h2⟩ := q_and_iff.mp h
    rw [e, List.map_cons, List.map_cons, ih h2, q_eq_ok hb h1]
theorem q_ghas_ok {b : qB} {v : Nat → Int} (hb : q_bok v b) {g : Nat} {as : List qL} {gs : List qGh} (h : q_ghas b g as gs = true) : ∃ h ∈ gs, h.1 = g ∧ h.2.map (q_ev v) = as.map (q_ev v) := by
  obtain ⟨x, hx, h⟩ := q_any_ok h
  obtain ⟨h1, h2⟩ := q_and_iff.mp h
  exact ⟨x, hx, q_beq_iff.mp h1, q_geq_ok hb as h2⟩
/-- what a pattern says of the heap, at v -/
def q_pok (S : Nat → Int32) (X : zH) (v : Nat → Int) (P : qP) : Prop := q_bok v P.2.1 ∧ q_cok v P.2.2.1 ∧ (∀ f ∈ P.2.2.2.1, q_fok S X v f) ∧ ∀ g ∈ P.2.2.2.2, q_gok X g.1 (g.2.map (q_ev v))
section
variable {S : Nat → Int32} {X0 X : zH} {m : Nat} {v v' : Nat → Int} {w : qW}
theorem q_pm_ok {σ : List qL} {P : qP} (h : q_pm σ P w = true) (hw : q_wok S X0 m v w X) (hs : q_srel σ v v') : q_pok S X v' P := by
  unfold q_pm at h
  rw [q_cw_eq] at h
  simp only [q_and_iff] at h
  obtain ⟨h1, h2, h3, h4⟩ := h
  obtain ⟨a1, a2, a3, a4, a5, a6⟩ := hw
  refine ⟨fun q hq => ?_, fun c hc => ?_, fun f hf => ?_, fun g hg => ?_⟩
  · obtain ⟨l, e1, e2⟩ := q_ob_iff.mp (q_all_ok h1 q hq)
    rw [z_nth_eq] at e1
    rw [hs _ _ e1]
    obtain ⟨b1, b2⟩ := z_if_and e2
    have b1 := q_pr2_ok a1 a2 b1
    have b2 := q_pr2_ok a1 a2 b2
    rw [q_ev_pl] at b1
    rw [q_ev_pl, q_ev_ng] at b2
    have e : Int.neg q.2.1 = -q.2.1 := rfl
    rw [e] at b1
    exact ⟨by omega, by omega⟩
  · obtain ⟨l, e1, e2⟩ := q_sbl_ok (q_all_ok h2 c hc)
    rw [← e2 v v' hs]
    exact q_pr2_ok a1 a2 e1
  · obtain ⟨c, e1, e2⟩ := q_sbl_ok (q_all_ok h3 f hf)
    obtain ⟨i, e3, e4⟩ := q_sbl_ok e1
    obtain ⟨a, e5, e6⟩ := q_ob_iff.mp e3
    obtain ⟨x, e7, e8⟩ := q_sbv_ok e6
    obtain ⟨f0, g0, g1, g2, g3, g4⟩ := q_find_mem e5
    obtain ⟨k, j, r1, r2, r3, r4, r5⟩ := a5 f0 g0
    refine ⟨k, j, ?_, ?_, r3.trans g1, ?_, r5⟩
    · rw [r1, q_eq_ok a1 g2, e2 v v' hs]
    · rw [r2, q_eq_ok a1 g3, e4 v v' hs]
    · rw [e8 v v' hs]
      rw [g4] at r4
      exact q_mv_ok a1 a2 e7 r4
  · obtain ⟨as, e1, e2⟩ := q_sbs_ok _ (q_all_ok h4 g hg)
    obtain ⟨x, hx, e3, e4⟩ := q_ghas_ok a1 e1
    rw [← e2 v v' hs, ← e4, ← e3]
    exact a6 x hx
theorem q_sco_den {n : Nat} {l : qL} (h : q_sco n l = true) (v : Nat → Int) : q_den n v l (q_ev v l) := fun v' hv => by
  have h := q_all_ok h
  show l.1 + q_et v' l.2 = l.1 + q_et v l.2
  have key : ∀ ts : List (Nat × Int), (∀ q ∈ ts, Nat.blt q.1 n = true) → q_et v' ts = q_et v ts := by
    intro ts
    induction ts with
    | nil => intro _; rfl
    | cons q t ih =>
      intro hh
      show q.2 * v' q.1 + q_et v' t = q.2 * v q.1 + q_et v t
      rw [ih fun x hx => hh x (List.mem_cons_of_mem _ hx), hv q.1 (z_blt (hh q (List.mem_cons_self ..)))]
  rw [key l.2 h]
theorem q_rdk_ok {k : qW → qV → Bool} {p : Nat} {c i : qL} (h : q_rdk p c i k w = true) (hw : q_wg S X0 m v w X) : ∃ w' a v1, k w' a = true ∧ q_ext w.1 v w'.1 v1 ∧ q_wg S X0 m v1 w' X := by
  unfold q_rdk at h
  simp only [q_and_iff, q_ob_iff, q_cw_eq] at h
  obtain ⟨h1, h2, r, h3, t, h4, h5, h⟩ := h
  have e1 := q_nil_iff.mp h1
  have e2 := q_nn_ok.mp h2
  have hc : q_den w.1 v c ((c.1.toNat : Nat) : Int) := fun v' _ => by
    rw [q_const h1]; omega
  rw [z_nth_eq] at h3
  have hk : c.1.toNat < 190 := by
    have := (List.getElem?_eq_some_iff.mp h3).1
    rwa [q_regs_len] at this
  have hr : q_reg c.1.toNat = r := by
    unfold q_reg
    rw [if_neg (by omega), h3]
    rfl
  obtain ⟨er, hlt⟩ := q_rk_of h4
  have er' : q_rk (q_reg c.1.toNat) = t := by rw [hr]; exact er
  have hlen : q_len c.1.toNat = t.2.2.1 := by show (q_rk (q_reg c.1.toNat)).2.2.1 = _; rw [er']
  have fin : ∀ j : Nat, q_den w.1 v i (j : Int) → q_plc c.1.toNat j = p → j < q_len c.1.toNat → q_rd p c i k w = true → ∃ w' a v1, k w' a = true ∧ q_ext w.1 v w'.1 v1 ∧ q_wg S X0 m v1 w' X := fun j hj hp hl hh => by
    obtain ⟨w', a, v1, k1, k2, k3, _⟩ := q_rd_ok hh hw hc hj hp (Or.inl ⟨hk, hl⟩)
    exact ⟨w', a, v1, k1, k2, k3⟩
  rcases q_if_iff.mp h with ⟨t1, h⟩ | ⟨t1, h⟩
  · simp only [q_and_iff] at h
    obtain ⟨c1, c2, c3, c4, c5⟩ := h
    have c2 := q_nn_ok.mp c2
    refine fin i.1.toNat (fun v' _ => by rw [q_const c1]; omega) ?_ (by rw [hlen]; exact z_blt c3) c5
    unfold q_plc
    rw [er', if_pos (q_beq_iff.mp t1)]
    exact q_beq_iff.mp c4
  · simp only [q_and_iff] at h
    obtain ⟨c1, c2, c3, c4, c5⟩ := h
    have hd := q_sco_den h5 v
    have b1 := hw.pr hd c3
    have b2 := hw.pr (hd.ng.pl _) c4
    have i1 : (Int.ofNat 1 : Int) = 1 := rfl
    have is1 : ∀ a b : Int, Int.sub a b = a - b := fun _ _ => rfl
    rw [is1, i1] at b2
    have b3 : (Int.ofNat t.2.2.1 : Int) = ((t.2.2.1 : Nat) : Int) := rfl
    have ej : (((q_ev v i).toNat : Nat) : Int) = q_ev v i := by omega
    refine fin (q_ev v i).toNat (by rw [ej]; exact hd) ?_ (by rw [hlen]; omega) c5
    unfold q_plc
    rw [er', if_neg (z_nbeq t1)]
    exact q_beq_iff.mp c2
/-- what stands for the pattern's vars: longer and longer -/
theorem q_sg_ok {vals : List (Nat × qV)} {k : qW → List qL → Bool} (is : List qI) : ∀ {w : qW} {v : Nat → Int} {σ : List qL}, q_sg vals k is w σ = true → q_wg S X0 m v w X → ∃ w' τ v1, k w' (σ ++ τ) = true ∧ q_ext w.1 v w'.1 v1 ∧ q_wg S X0 m v1 w' X := by
  induction is with
  | nil => intro w v σ h hw; exact ⟨w, [], v, by rw [List.append_nil]; exact h, q_ext.refl _ _, hw⟩
  | cons it t ih =>
    intro w v σ h hw
    have snoc : ∀ {l : qL}, q_fls (q_snoc σ l) (fun σ => q_sg vals k t w σ) = true → ∃ w' τ v1, k w' (σ ++ τ) = true ∧ q_ext w.1 v w'.1 v1 ∧ q_wg S X0 m v1 w' X := fun {l} hh => by
      have hh := q_fls_ok _ hh
      obtain ⟨w', τ, v1, k1, k2, k3⟩ := ih hh hw
      refine ⟨w', l :: τ, v1, ?_, k2, k3⟩
      have e : q_snoc σ l = σ ++ [l] := q_cat2_eq _ _
      rw [e, List.append_assoc] at k1
      exact k1
    have h : z_if (Nat.beq it.1 0) (q_ob (q_get vals it.2.1) fun a => q_sb σ it.2.2.1 fun x => q_fl (q_sub a.2.2.1 x) fun l => q_fls (q_snoc σ l) fun σ => q_sg vals k t w σ)
      (z_if (Nat.beq it.1 1) (q_ob (q_get vals it.2.1) fun a => q_fl (q_quo (Int.ofNat 0, a.2.2.1.2) it.2.2.2.1.1) fun l => q_fls (q_snoc σ l) fun σ => q_sg vals k t w σ)
      (z_if (Nat.beq it.1 2) (q_ob (q_get vals it.2.1) fun a => q_fl (Int.sub a.2.2.1.1 it.2.2.1.1, q_rst it.2.2.2.1.1 a.2.2.1.2) fun l => q_fls (q_snoc σ l) fun σ => q_sg vals k t w σ)
      (z_if (Nat.beq it.1 4) (q_sb σ it.2.2.1 fun c => q_sb σ it.2.2.2.1 fun i => q_rdk it.2.1 c i (fun w _ => q_sg vals k t w σ) w)
      (z_if (Nat.beq it.1 5) (q_sb σ it.2.2.1 fun c => q_sb σ it.2.2.2.1 fun i => q_cw w fun _ b _ fs _ => q_ob (q_find b it.2.1 c i fs) fun a => q_sb σ it.2.2.2.2.1 fun x => q_fl (q_sub a.2.2.1 x) fun l => q_fls (q_snoc σ l) fun σ => q_sg vals k t w σ)
        (q_cw w fun _ b _ _ gs => q_ob (q_gfd b σ it.2.1 it.2.2.2.2.2 gs) fun as => q_fls (z_cat2 σ as) fun σ => q_sg vals k t w σ))))) = true := h
    rcases q_if_iff.mp h with ⟨_, h⟩ | ⟨_, h⟩
    · obtain ⟨a, _, h⟩ := q_ob_iff.mp h
      obtain ⟨x, h, _⟩ := q_sbl_ok h
      rw [q_fl_eq] at h
      exact snoc h
    · rcases q_if_iff.mp h with ⟨_, h⟩ | ⟨_, h⟩
      · obtain ⟨a, _, h⟩ := q_ob_iff.mp h
        rw [q_fl_eq] at h
        exact snoc h
      · rcases q_if_iff.mp h with ⟨_, h⟩ | ⟨_, h⟩
        · obtain ⟨a, _, h⟩ := q_ob_iff.mp h
          rw [q_fl_eq] at h
          exact snoc h
        · rcases q_if_iff.mp h with ⟨_, h⟩ | ⟨_, h⟩
          · obtain ⟨c, h, _⟩ := q_sbl_ok h
            obtain ⟨i, h, _⟩ := q_sbl_ok h
            obtain ⟨w1, a, u1, k1, k2, k3⟩ := q_rdk_ok h hw
            obtain ⟨w2, τ, u2, m1, m2, m3⟩ := ih k1 k3
            exact ⟨w2, τ, u2, m1, k2.trans m2, m3⟩
          · rcases q_if_iff.mp h with ⟨_, h⟩ | ⟨_, h⟩
            · obtain ⟨c, h, _⟩ := q_sbl_ok h
              obtain ⟨i, h, _⟩ := q_sbl_ok h
              rw [q_cw_eq] at h
              obtain ⟨a, _, h⟩ := q_ob_iff.mp h
              obtain ⟨x, h, _⟩ := q_sbl_ok h
              rw [q_fl_eq] at h
              exact snoc h
            · rw [q_cw_eq] at h
              obtain ⟨as, _, h⟩ := q_ob_iff.mp h
              have h := q_fls_ok _ h
              rw [q_cat2_eq] at h
              obtain ⟨w', τ, v1, k1, k2, k3⟩ := ih h hw
              refine ⟨w', as ++ τ, v1, ?_, k2, k3⟩
              rw [List.append_assoc] at k1
              exact k1
theorem q_mvs_ok {σ : List qL} {vals ps : List (Nat × qV)} (h : q_mvs σ vals ps w = true) (hw : q_wok S X0 m v w X) (hs : q_srel σ v v') : ∀ q ∈ ps, ∃ a, q_get vals q.1 = some a ∧ ∀ z, q_rep v a z → q_rep v' q.2 z := fun q hq => by
  unfold q_mvs at h
  rw [q_cw_eq] at h
  obtain ⟨x, e1, e2⟩ := q_sbv_ok (q_all_ok h q hq)
  obtain ⟨a, e3, e4⟩ := q_ob_iff.mp e1
  exact ⟨a, e3, fun z hz => (e2 v v' hs z).mpr (q_mv_ok hw.1 hw.2.1 e4 hz)⟩
end
