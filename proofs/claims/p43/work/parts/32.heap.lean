/-! the checker is sound: the heap -/
theorem q_regs_len : q_regs.length = 190 := by decide +kernel
theorem q_regs_lt : ∀ r ∈ q_regs, r < 90 := by decide +kernel
theorem q_rks_len : q_rks.length = 91 := by decide +kernel
theorem q_rk_of {r : Nat} {t : Nat × Nat × Nat × Nat} (h : z_nth q_rks r = some t) : q_rk r = t ∧ r < 91 := by
  rw [z_nth_eq] at h
  refine ⟨by show (q_rks[r]?).getD _ = t; rw [h]; rfl, ?_⟩
  have := (List.getElem?_eq_some_iff.mp h).1
  rwa [q_rks_len] at this
theorem q_cell {k r : Nat} (h : q_reg k = r) (h1 : r < 91) (h2 : r ≠ 90) : k < 190 := by
  unfold q_reg at h
  by_cases e : k = 1000000
  · rw [if_pos e] at h; omega
  · rw [if_neg e] at h
    cases e2 : q_regs[k]? with
    | none => rw [e2] at h; have : (99 : Nat) = r := h; omega
    | some x =>
      have := (List.getElem?_eq_some_iff.mp e2).1
      rwa [q_regs_len] at this
theorem q_cell90 {k : Nat} (h : q_reg k = 90) : k = 1000000 := by
  unfold q_reg at h
  by_cases e : k = 1000000
  · exact e
  · rw [if_neg e] at h
    cases e2 : q_regs[k]? with
    | none => rw [e2] at h; have : (99 : Nat) = 90 := h; omega
    | some x =>
      rw [e2] at h
      have h : x = 90 := h
      have := q_regs_lt x (List.mem_of_getElem? e2)
      omega
theorem q_reg_lt {k : Nat} (h : k < 190) : q_reg k < 90 := by
  unfold q_reg
  rw [if_neg (by omega)]
  have : k < q_regs.length := by rw [q_regs_len]; exact h
  rw [List.getElem?_eq_getElem this]
  exact q_regs_lt _ (List.getElem_mem ..)
theorem q_sgl_all : ∀ k, k < 190 → (q_sgl[q_reg k]?).getD 0 = 999 ∨ (q_sgl[q_reg k]?).getD 0 = k := by decide +kernel
theorem q_sgl_ok {k r g : Nat} (h : z_nth q_sgl r = some g) (hr : q_reg k = r) (hg : g ≠ 999) : k = g := by
  rw [z_nth_eq] at h
  by_cases e : r = 90
  · have := q_cell90 (hr.trans e)
    have h2 : q_sgl[90]? = some 1000000 := by decide +kernel
    rw [e, h2] at h
    cases h; exact this
  · have hl : r < 91 := by
      have := (List.getElem?_eq_some_iff.mp h).1
      have h3 : q_sgl.length = 91 := by decide +kernel
      rwa [h3] at this
    have hk := q_cell hr hl e
    have := q_sgl_all k hk
    rw [hr, h] at this
    rcases this with h4 | h4
    · exact absurd h4 hg
    · exact h4.symm
theorem q_sgl_999 {r : Nat} (h : z_nth q_sgl r = some 999) : r < 91 ∧ r ≠ 90 := by
  rw [z_nth_eq] at h
  have h3 : q_sgl.length = 91 := by decide +kernel
  have := (List.getElem?_eq_some_iff.mp h).1
  refine ⟨by rwa [h3] at this, fun e => ?_⟩
  have h2 : q_sgl[90]? = some 1000000 := by decide +kernel
  rw [e, h2] at h
  cases h
theorem q_base : ∀ k, k < 190 → (q_rk (q_reg k)).2.2.2 + (if (q_rk (q_reg k)).1 = 1 then q_len k else 1) ≤ 227 := by decide +kernel
theorem q_plc_lt {k j : Nat} (h : k < 190) (hj : j < q_len k) : q_plc k j < 227 := by
  have := q_base k h
  unfold q_plc
  split
  · rename_i h1
    rw [if_pos h1] at this
    omega
  · rename_i h1
    rw [if_neg h1] at this
    omega
theorem q_sp_of {p : Nat} {s : Nat × Nat × Int × Int} (h : z_nth q_sps p = some s) : q_sp p = s := by
  rw [z_nth_eq] at h
  show (q_sps[p]?).getD _ = s
  rw [h]; rfl
section
variable {S : Nat → Int32} {X0 X : zH} {m : Nat} {v : Nat → Int} {w : qW}
def q_vld (k j : Nat) : Prop := (k < 190 ∧ j < q_len k) ∨ k = 1000000
theorem q_slot_h {k : Nat} (h : k < 190) (j : Nat) : q_slot S X k j = q_hs X k j := by
  unfold q_slot
  rw [if_neg (by omega)]
theorem q_slot_s (j : Nat) : q_slot S X 1000000 j = .inl (.int (S j)) := by
  unfold q_slot
  rw [if_pos rfl]
theorem q_slot_ok (h : q_inv S X) {k j p : Nat} (hv : q_vld k j) (hp : q_plc k j = p) : q_spok (q_sp p) j (q_slot S X k j) ∧ (p = 227 → k = 1000000) := by
  rcases hv with ⟨h1, h2⟩ | h1
  · rw [q_slot_h h1, ← hp]
    refine ⟨h.2.2.1 k j h1 h2, fun e => ?_⟩
    have := q_plc_lt h1 h2
    omega
  · subst h1
    have e : q_plc 1000000 j = 227 := by
      unfold q_plc
      have e2 : q_rk (q_reg 1000000) = (0, 0, 3073, 227) := by decide +kernel
      rw [e2]; rfl
    rw [e] at hp
    subst hp
    have e3 : q_sp 227 = (1, 0, Int.negSucc 2147483647, Int.ofNat 2147483647) := by decide +kernel
    rw [q_slot_s, e3]
    exact ⟨⟨fun _ => ⟨S j, rfl, (q_i32 _).1, (q_i32 _).2⟩, (fun h => by cases h), (fun h => by cases h), (fun h => by cases h)⟩, fun _ => rfl⟩
/-! facts -/
theorem q_find_mem {b : qB} {p : Nat} {c i : qL} {fs : List qFa} {a : qV} (h : q_find b p c i fs = some a) : ∃ f ∈ fs, f.1 = p ∧ q_eq b f.2.1 c = true ∧ q_eq b f.2.2.1 i = true ∧ f.2.2.2 = a := by
  induction fs with
  | nil => cases h
  | cons f t ih =>
    have h : z_if (Nat.beq f.1 p) (z_if (q_eq b f.2.1 c) (z_if (q_eq b f.2.2.1 i) (some f.2.2.2) (q_find b p c i t)) (q_find b p c i t)) (q_find b p c i t) = some a := h
    have go : q_find b p c i t = some a → ∃ f' ∈ f :: t, f'.1 = p ∧ q_eq b f'.2.1 c = true ∧ q_eq b f'.2.2.1 i = true ∧ f'.2.2.2 = a := fun h => by
      obtain ⟨f', h1, h2⟩ := ih h
      exact ⟨f', List.mem_cons_of_mem _ h1, h2⟩
    cases e1 : Nat.beq f.1 p with
    | false => rw [e1] at h; exact go h
    | true =>
      rw [e1] at h
      cases e2 : q_eq b f.2.1 c with
      | false => rw [e2] at h; exact go h
      | true =>
        rw [e2] at h
        cases e3 : q_eq b f.2.2.1 i with
        | false => rw [e3] at h; exact go h
        | true =>
          rw [e3] at h
          exact ⟨f, List.mem_cons_self .., q_beq_iff.mp e1, e2, e3, Option.some.inj h⟩
theorem q_find_ok (hw : q_wg S X0 m v w X) {p k j : Nat} {c i : qL} {a : qV} (hc : q_den w.1 v c (k : Int)) (hi : q_den w.1 v i (j : Int)) (h : q_find w.2.1 p c i w.2.2.2.1 = some a) : q_rg w.1 v a (q_slot S X k j) ∧ q_plc k j = p := by
  obtain ⟨f, hf, h1, h2, h3, h4⟩ := q_find_mem h
  have key : ∀ v', q_agr w.1 v v' → q_plc k j = f.1 ∧ q_rep v' f.2.2.2 (q_slot S X k j) := fun v' hv => by
    obtain ⟨a1, _, _, _, a5, _⟩ := hw v' hv
    obtain ⟨k', j', g1, g2, g3, g4⟩ := a5 f hf
    have e1 := q_eq_ok a1 h2
    have e2 := q_eq_ok a1 h3
    rw [hc v' hv] at e1
    rw [hi v' hv] at e2
    have ek : k' = k := by omega
    have ej : j' = j := by omega
    subst ek; subst ej
    exact ⟨g3, g4.1⟩
  rw [← h4, ← h1]
  exact ⟨fun v' hv => (key v' hv).2, (key v (q_agr.refl _ _)).1⟩
theorem q_add_fact (hw : q_wg S X0 m v w X) {p k j : Nat} {c i : qL} {a : qV} (hc : q_den w.1 v c (k : Int)) (hi : q_den w.1 v i (j : Int)) (hp : q_plc k j = p) (hk : k < 190 ∨ k = 1000000) (ha : q_rg w.1 v a (q_slot S X k j)) : q_wg S X0 m v (w.1, w.2.1, w.2.2.1, (p, c, i, a) :: w.2.2.2.1, w.2.2.2.2) X := fun v' hv => by
  obtain ⟨a1, a2, a3, a4, a5, a6⟩ := hw v' hv
  refine ⟨a1, a2, a3, a4, fun f hf => ?_, a6⟩
  rcases List.mem_cons.mp hf with e | e
  · rw [e]; exact ⟨k, j, (hc v' hv).symm, (hi v' hv).symm, hp, ha v' hv, hk⟩
  · exact a5 f e
/-- what a read gives -/
def q_rout (S : Nat → Int32) (X0 X : zH) (m : Nat) (v : Nat → Int) (w : qW) (k : qW → qV → Bool) (z : zV) : Prop := ∃ w' a v1, k w' a = true ∧ q_ext w.1 v w'.1 v1 ∧ q_wg S X0 m v1 w' X ∧ q_rg w'.1 v1 a z
theorem q_put_ok {k : qW → qV → Bool} {p kc j : Nat} {c i : qL} {a : qV} (h : q_put p c i a k w = true) (hw : q_wg S X0 m v w X) (hc : q_den w.1 v c (kc : Int)) (hi : q_den w.1 v i (j : Int)) (hp : q_plc kc j = p) (hk : kc < 190 ∨ kc = 1000000) (ha : q_rg w.1 v a (q_slot S X kc j)) : q_rout S X0 X m v w k (q_slot S X kc j) := by
  unfold q_put at h
  rw [q_cw_eq] at h
  exact ⟨_, a, v, h, q_ext.refl _ _, q_add_fact hw hc hi hp hk ha, ha⟩
theorem q_r18_ok {i : qL} (v : Nat → Int) : q_ev v i = 18 * q_ev v (q_quo i 18) + q_ev v (q_r18 i) := q_quo_ev 18 v i
theorem q_r18_mod {i : qL} {j : Nat} (hi : q_ev v i = (j : Int)) (h0 : 0 ≤ q_ev v (q_r18 i)) (h1 : q_ev v (q_r18 i) < 18) : ((j % 18 : Nat) : Int) = q_ev v (q_r18 i) := by
  have := q_r18_ok (i := i) v
  omega
theorem q_new_ok {k : qW → qV → Bool} {p kc j : Nat} {c i : qL} (h : q_new p c i k w = true) (hw : q_wg S X0 m v w X) (hc : q_den w.1 v c (kc : Int)) (hi : q_den w.1 v i (j : Int)) (hp : q_plc kc j = p) (hv : q_vld kc j) : q_rout S X0 X m v w k (q_slot S X kc j) := by
  have hk0 : kc < 190 ∨ kc = 1000000 := hv.elim (fun h => Or.inl h.1) Or.inr
  unfold q_new at h
  obtain ⟨s, hs, h⟩ := q_ob_iff.mp h
  obtain ⟨⟨s1, s2, s3, s4⟩, hscr⟩ := q_slot_ok (S := S) hw.inv hv hp
  rw [q_sp_of hs] at s1 s2 s3 s4
  have int : ∀ {lo hi : Int} {x : Int32}, q_fr lo hi (fun _ => []) (fun w l => q_put p c i (q_vi l) k w) w = true → q_slot S X kc j = .inl (.int x) → lo ≤ x.toInt → x.toInt ≤ hi → q_rout S X0 X m v w k (q_slot S X kc j) := fun h1 h2 h3 h4 => by
    obtain ⟨w1, l, v1, g1, g2, g3, g4⟩ := q_fr0_ok h1 hw h3 h4
    obtain ⟨w2, a, v2, f1, f2, f3, f4⟩ := q_put_ok (a := q_vi l) (kc := kc) (j := j) g1 g3 (hc.ext g2) (hi.ext g2) hp hk0 (by rw [h2]; exact q_rg_vi g4)
    exact ⟨w2, a, v2, f1, g2.trans f2, f3, f4⟩
  rcases q_if_iff.mp h with ⟨t1, h⟩ | ⟨_, h⟩
  · obtain ⟨x, e1, e2, e3⟩ := s1 (q_beq_iff.mp t1)
    rw [q_fi_eq, q_fi_eq] at h
    rcases q_if_iff.mp h with ⟨t2, h⟩ | ⟨_, h⟩
    · rw [q_cw_eq] at h
      rcases q_if_iff.mp h with ⟨t3, h⟩ | ⟨_, h⟩
      · have hk := hscr (q_beq_iff.mp t2)
        have ej := q_eq_ok hw.b t3
        rw [hi.at, q_ev_c] at ej
        have ej : (j : Int) = 3072 := ej
        have ej : j = 3072 := by omega
        subst hk; subst ej
        rw [q_slot_s] at e1
        have e1 : S 3072 = x := by cases e1; rfl
        have hb := hw.inv.2.2.2
        exact int (x := S 3072) h (q_slot_s _) (by show (0 : Int) ≤ _; exact hb.1) (by show _ ≤ (3072 : Int); exact hb.2)
      · exact int h e1 e2 e3
    · exact int h e1 e2 e3
  · rcases q_if_iff.mp h with ⟨t1, h⟩ | ⟨_, h⟩
    · obtain ⟨x, e1⟩ := s2 (q_beq_iff.mp t1)
      obtain ⟨w1, l, v1, g1, g2, g3, g4⟩ := q_fr0_ok h hw (q_i64 x).1 (q_i64 x).2
      obtain ⟨w2, a, v2, f1, f2, f3, f4⟩ := q_put_ok (a := q_vl l) (kc := kc) (j := j) g1 g3 (hc.ext g2) (hi.ext g2) hp hk0 (by rw [e1]; exact q_rg_vl g4)
      exact ⟨w2, a, v2, f1, g2.trans f2, f3, f4⟩
    · rcases q_if_iff.mp h with ⟨t1, h⟩ | ⟨_, h⟩
      · obtain ⟨x, e1, e2⟩ := s3 (q_beq_iff.mp t1)
        rw [q_fn_eq] at h
        obtain ⟨g, hg, h⟩ := q_ob_iff.mp h
        rcases q_if_iff.mp h with ⟨t2, h⟩ | ⟨t2, h⟩
        · rw [q_beq_iff.mp t2] at hg
          obtain ⟨r1, r2⟩ := q_sgl_999 hg
          have hx := q_cell e2 r1 r2
          obtain ⟨w1, l, v1, g1, g2, g3, g4⟩ := q_fr0_ok (z := (x : Int)) h hw (by show (0 : Int) ≤ _; omega) (by show _ ≤ (189 : Int); omega)
          obtain ⟨w2, a, v2, f1, f2, f3, f4⟩ := q_put_ok (a := q_vr s.2.1 l) (kc := kc) (j := j) g1 g3 (hc.ext g2) (hi.ext g2) hp hk0 (by rw [e1]; exact fun v' hv => q_rep_vr (g4 v' hv) e2)
          exact ⟨w2, a, v2, f1, g2.trans f2, f3, f4⟩
        · rw [q_fn_eq] at h
          have hx := q_sgl_ok hg e2 (z_nbeq t2)
          exact q_put_ok h hw hc hi hp hk0 (by rw [e1]; exact fun v' hv => q_rep_vr (by rw [q_ev_c, hx]; rfl) e2)
      · rcases q_if_iff.mp h with ⟨t1, h⟩ | ⟨_, h⟩
        · obtain ⟨x, e1, e2⟩ := s4 (q_beq_iff.mp t1)
          rw [q_cw_eq, q_fl_eq] at h
          rcases q_if_iff.mp h with ⟨t2, h⟩ | ⟨_, h⟩
          · obtain ⟨u1, u2⟩ := q_and_iff.mp t2
            have u1 := q_ge0_ok hw.b u1
            have u2 := q_ge0_ok hw.b u2
            rw [q_ev_pl, q_ev_ng] at u2
            have i1 : (Int.ofNat 1 : Int) = 1 := rfl
            rw [i1] at u2
            have hm := q_r18_mod hi.at u1 (by omega)
            obtain ⟨b1, b2⟩ := e2.1 (by omega)
            exact int h e1 (by show (-1 : Int) ≤ _; exact b1) (by show _ ≤ (7 : Int); exact b2)
          · rcases q_if_iff.mp h with ⟨t2, h⟩ | ⟨_, h⟩
            · obtain ⟨u1, u2⟩ := q_and_iff.mp t2
              have u1 := q_ge0_ok hw.b u1
              have u2 := q_ge0_ok hw.b u2
              rw [q_ev_pl] at u1
              rw [q_ev_pl, q_ev_ng] at u2
              have i1 : (Int.ofNat 7 : Int) = 7 := rfl
              have i2 : (Int.negSucc 3 : Int) = -4 := rfl
              rw [i1] at u2
              rw [i2] at u1
              have hm := q_r18_mod hi.at (by omega) (by omega)
              obtain ⟨b1, b2⟩ := e2.2 (by omega) (by omega)
              exact int h e1 (by show (-1 : Int) ≤ _; exact b1) (by show _ ≤ (4 : Int); exact b2)
            · obtain ⟨w1, l, v1, g1, g2, g3, g4⟩ := q_fr0_ok h hw (q_i32 x).1 (q_i32 x).2
              obtain ⟨w2, a, v2, f1, f2, f3, f4⟩ := q_put_ok (a := (4, 0, l, i)) (kc := kc) (j := j) g1 g3 (hc.ext g2) (hi.ext g2) hp hk0 (by
                rw [e1]
                exact fun v' hv => ⟨(fun h => by cases h), (fun h => by cases h), (fun h => by cases h), fun _ => ⟨x, rfl, (g4 v' hv).symm, j, ((hi.ext g2) v' hv).symm, e2⟩, (fun h => by cases h), (fun h => by cases h)⟩)
              exact ⟨w2, a, v2, f1, g2.trans f2, f3, f4⟩
        · exact ⟨w, _, v, h, q_ext.refl _ _, hw, fun v' hv => ⟨(fun h => by cases h), (fun h => by cases h), (fun h => by cases h), (fun h => by cases h), (fun h => by cases h), (fun h => by cases h)⟩⟩
theorem q_rd_ok {k : qW → qV → Bool} {p kc j : Nat} {c i : qL} (h : q_rd p c i k w = true) (hw : q_wg S X0 m v w X) (hc : q_den w.1 v c (kc : Int)) (hi : q_den w.1 v i (j : Int)) (hp : q_plc kc j = p) (hv : q_vld kc j) : q_rout S X0 X m v w k (q_slot S X kc j) := by
  unfold q_rd at h
  rw [q_cw_eq] at h
  cases e : q_find w.2.1 p c i w.2.2.2.1 with
  | none => rw [e] at h; exact q_new_ok h hw hc hi hp hv
  | some a =>
    rw [e] at h
    have h : q_fv a (fun a => k w a) = true := h
    rw [q_fv_eq] at h
    exact ⟨w, a, v, h, q_ext.refl _ _, hw, (q_find_ok hw hc hi e).1⟩
end
