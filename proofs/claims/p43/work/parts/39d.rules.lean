/-! the checker is sound: the thirty words at places -/
section
variable {S : Nat → Int32} {X0 X : zH} {m : Nat} {v : Nat → Int} {w : qW} {ls : List (Nat × qV)} {cls : zL} {k : qW → Bool}
abbrev q_urule (S : Nat → Int32) (X0 : zH) (m : Nat) (r : qR) : Prop := ∀ {X : zH} {v : Nat → Int} {w : qW} {ls : List (Nat × qV)} {cls : zL} {k : qW → Bool}, r ls k w = true → q_lg w.1 v ls cls → q_wg S X0 m v w X → q_uok S X0 X m v w k
theorem q_u0_ok : q_urule S X0 m q_u0 := by
  intro X v w ls cls k h hl hw
  exact q_addg1 (x1 := 0) h hw (q_den.c _) (fun j h1 h2 => by omega)
theorem q_u1_ok : q_urule S X0 m q_u1 := by
  intro X v w ls cls k h hl hw
  obtain ⟨x, a, h, dx⟩ := q_loc_ok h hl
  obtain ⟨h1, h⟩ := q_and_iff.mp h
  obtain ⟨y, h, ha, dy⟩ := q_ff_ok h hw dx (by omega)
  obtain ⟨h2, h⟩ := q_and_iff.mp h
  have e := q_eqw_ok h2 hw dy (q_den.c _)
  have e : q_gi X 181 a.toNat = 0 := e
  have g : ∀ j : Int, 0 ≤ j → j < a → q_gi X 181 j.toNat = 0 := q_hasg1 h1 hw dx
  refine q_addg1 (x1 := a + 1) h hw (dx.pl _) (show ∀ j : Int, 0 ≤ j → j < a + 1 → q_gi X 181 j.toNat = 0 from fun j j1 j2 => ?_)
  by_cases ej : j = a
  · rw [ej]; exact e
  · exact g j j1 (by omega)
theorem q_u2_ok : q_urule S X0 m q_u2 := by
  intro X v w ls cls k h hl hw
  obtain ⟨l, x, h, dx, g⟩ := q_exg1 h hw
  obtain ⟨h1, h⟩ := q_and_iff.mp h
  have b := q_prw_ok h1 hw (dx.pl _)
  have e : (Int.negSucc 35 : Int) = -36 := rfl
  rw [e] at b
  have g : ∀ j : Int, 0 ≤ j → j < x → q_gi X 181 j.toNat = 0 := g
  have z : ∀ j : Nat, j < 36 → q_gi X 181 j = 0 := fun j hj => by
    have := g (j : Int) (by omega) (by omega)
    rwa [Int.toNat_natCast] at this
  refine q_addg1 (x1 := 0) h hw (q_den.c _) (show (∀ j, j < 36 → q_gi X 181 j ≤ 0) ∧ (q_zc (q_gi X 181) 36 : Int) = 36 - 0 ∧ (0 : Int) ≤ 0 from ⟨fun j hj => by rw [z j hj]; exact Int.le_refl _, ?_, Int.le_refl _⟩)
  rw [q_zc_zero 36 z]; rfl
theorem q_u3_ok : q_urule S X0 m q_u3 := by
  intro X v w ls cls k h hl hw
  obtain ⟨i, a, h, di⟩ := q_loc_ok h hl
  obtain ⟨h1, h⟩ := q_and_iff.mp h
  have b := q_prw_ok h1 hw (di.ng.pl _)
  have e35 : (Int.ofNat 35 : Int) = 35 := rfl
  rw [e35] at b
  obtain ⟨x, h, ha, dx⟩ := q_ff_ok h hw di (by omega)
  obtain ⟨h2, h⟩ := q_and_iff.mp h
  have e : q_gi X 181 a.toNat = 0 := q_eqw_ok h2 hw dx (q_den.c _)
  obtain ⟨l, n, h, dn, g⟩ := q_exg1 h hw
  obtain ⟨g1, g2, g3⟩ : (∀ j, j < 36 → q_gi X 181 j ≤ n) ∧ (q_zc (q_gi X 181) 36 : Int) = 36 - n ∧ 0 ≤ n := g
  have zc := q_zc_put (se := q_gi X 181) (i := a) 36
  rw [if_pos ⟨ha, by omega, e⟩, g2] at zc
  obtain ⟨w', k1, k2, k3⟩ := q_asm1_ok h hw (dn.ng.pl _) (by rw [e35]; omega)
  refine q_uok.same k2 (q_addg2 (x1 := n) (x2 := a) k1 k3 (by rw [k2]; exact dn) (by rw [k2]; exact di) ?_)
  exact ⟨ha, by omega, g3, fun j hj _ => g1 j hj, by omega⟩
theorem q_u4_ok : q_urule S X0 m q_u4 := by
  intro X v w ls cls k h hl hw
  obtain ⟨ln, li, n, i, h, dn, di, g⟩ := q_exg2 h hw
  obtain ⟨x, h, hi, dx⟩ := q_ff_ok h hw di (by omega)
  obtain ⟨h2, h⟩ := q_and_iff.mp h
  have i1 : (Int.ofNat 1 : Int) = 1 := rfl
  have e := q_eqw_ok h2 hw dx (dn.pl _)
  rw [i1] at e
  obtain ⟨g1, g2, g3, g4, g5⟩ : 0 ≤ i ∧ i < 36 ∧ 0 ≤ n ∧ (∀ j : Nat, j < 36 → (j : Int) ≠ i → q_gi X 181 j ≤ n) ∧ (q_zc (fun (j : Nat) => if (j : Int) = i then 1 else q_gi X 181 j) 36 : Int) = 35 - n := g
  have zc := q_zc_put (se := q_gi X 181) (i := i) 36
  rw [if_neg (show ¬ (0 ≤ i ∧ i < ((36 : Nat) : Int) ∧ q_gi X 181 i.toNat = 0) by omega), g5] at zc
  refine q_addg1 (x1 := n + 1) h hw (dn.pl _) (show (∀ j, j < 36 → q_gi X 181 j ≤ n + 1) ∧ (q_zc (q_gi X 181) 36 : Int) = 36 - (n + 1) ∧ 0 ≤ n + 1 from ⟨fun j hj => ?_, by omega, by omega⟩)
  by_cases ej : (j : Int) = i
  · have : i.toNat = j := by omega
    rw [this] at e
    omega
  · have := g4 j hj ej
    omega
theorem q_u5_ok : q_urule S X0 m q_u5 := by
  intro X v w ls cls k h hl hw
  obtain ⟨i, a, h, di⟩ := q_loc_ok h hl
  obtain ⟨h1, h⟩ := q_and_iff.mp h
  have b := q_prw_ok h1 hw (di.ng.pl _)
  have e35 : (Int.ofNat 35 : Int) = 35 := rfl
  rw [e35] at b
  obtain ⟨x, h, ha, dx⟩ := q_ff_ok h hw di (by omega)
  obtain ⟨l, n, h, dn, g⟩ := q_exg1 h hw
  obtain ⟨g1, g2, g3⟩ : (∀ j, j < 36 → q_gi X 181 j ≤ n) ∧ (q_zc (q_gi X 181) 36 : Int) = 36 - n ∧ 0 ≤ n := g
  have := g1 a.toNat (by omega)
  exact q_uok.of0 (q_asm1_ok h hw (dn.sub dx) (by omega))
theorem q_u6_ok : q_urule S X0 m q_u6 := by
  intro X v w ls cls k h hl hw
  obtain ⟨g, a, h, dg⟩ := q_loc_ok h hl
  exact q_addg3 (x1 := a) (x2 := -1) (x3 := 0) h hw dg (q_den.c _) (q_den.c _) (Or.inr fun q h1 h2 => by omega)
theorem q_bank_ok {f : qL → Bool} (h : q_bank f w = true) (hw : q_wg S X0 m v w X) : ∃ l, f l = true ∧ q_den w.1 v l (q_gi X 144 39) := by
  obtain ⟨l, h, _, dl⟩ := q_ff_ok h hw (q_den.i 39) (by omega)
  exact ⟨l, h, dl⟩
theorem q_rb_ok {f : qL → Bool} (h : q_rb f w = true) (hw : q_wg S X0 m v w X) : ∃ l, f l = true ∧ q_den w.1 v l (q_gi X 144 40) := by
  obtain ⟨l, h, _, dl⟩ := q_ff_ok h hw (q_den.i 40) (by omega)
  exact ⟨l, h, dl⟩
theorem q_twn_ok {b p : qL} {B P : Int} {f : qL → Bool} (h : q_twn b p f w = true) (hw : q_wg S X0 m v w X) (db : q_den w.1 v b B) (dp : q_den w.1 v p P) : ∃ l, f l = true ∧ q_den w.1 v l (q_gi X 156 (8 * B + P).toNat) := by
  unfold q_twn at h
  rw [q_fl_eq] at h
  obtain ⟨l, h, _, dl⟩ := q_ff_ok h hw ((db.sc _).add dp) (by omega)
  exact ⟨l, h, dl⟩
theorem q_grp_ok {b p : qL} {B P : Int} {f : qL → Bool} (h : q_grp b p f w = true) (hw : q_wg S X0 m v w X) (db : q_den w.1 v b B) (dp : q_den w.1 v p P) : ∃ l, f l = true ∧ q_den w.1 v l (q_gi X 159 (6 * B + P).toNat) := by
  unfold q_grp at h
  rw [q_fl_eq] at h
  obtain ⟨l, h, _, dl⟩ := q_ff_ok h hw ((db.sc _).add dp) (by omega)
  exact ⟨l, h, dl⟩
theorem q_u7_ok : q_urule S X0 m q_u7 := by
  intro X v w ls cls k h hl hw
  obtain ⟨b, h, db⟩ := q_bank_ok h hw
  obtain ⟨g, G, h, dg⟩ := q_loc_ok h hl
  obtain ⟨p, P, h, dp⟩ := q_loc_ok h hl
  obtain ⟨x, h, dx⟩ := q_twn_ok h hw db dp
  obtain ⟨y, h, dy⟩ := q_grp_ok h hw db dg
  obtain ⟨h1, h⟩ := q_and_iff.mp h
  have im : (Int.negSucc 0 : Int) = -1 := rfl
  have hne : q_gi X 156 (8 * q_gi X 144 39 + P).toNat ≠ q_gi X 159 (6 * q_gi X 144 39 + G).toNat := by
    rcases q_or_iff.mp h1 with h1 | h1
    · have := q_prw_ok h1 hw ((dx.sub dy).pl _)
      rw [im] at this; omega
    · have := q_prw_ok h1 hw ((dy.sub dx).pl _)
      rw [im] at this; omega
  obtain ⟨lg, lb, lp, GG, BB, PP, h, d1, d2, d3, gg⟩ := q_exg3 h hw
  simp only [q_and_iff] at h
  obtain ⟨h2, h3, h⟩ := h
  have e1 := q_eqw_ok h2 hw d1 dg
  have e2 := q_eqw_ok h3 hw d3 dp
  subst e1; subst e2
  have gg : 0 ≤ BB ∨ q_nob (q_gi X 156) (q_gi X 159) (q_gi X 144 39) GG PP := gg
  refine q_addg3 (x1 := GG) (x2 := BB) (x3 := PP + 1) h hw dg d2 (dp.pl _) (show 0 ≤ BB ∨ q_nob (q_gi X 156) (q_gi X 159) (q_gi X 144 39) GG (PP + 1) from ?_)
  rcases gg with gg | gg
  · exact Or.inl gg
  · refine Or.inr fun q h1 h2 => ?_
    by_cases e : q = PP
    · rw [e]; exact hne
    · exact gg q h1 (by omega)
theorem q_u8_ok : q_urule S X0 m q_u8 := by
  intro X v w ls cls k h hl hw
  obtain ⟨g, G, h, dg⟩ := q_loc_ok h hl
  obtain ⟨e, E, h, de⟩ := q_loc_ok h hl
  obtain ⟨p, P, h, dp⟩ := q_loc_ok h hl
  rcases q_if_iff.mp h with ⟨_, h⟩ | ⟨_, h⟩
  · exact ⟨w, v, h, q_ext.refl _ _, hw⟩
  · obtain ⟨h1, h⟩ := q_and_iff.mp h
    have := q_prw_ok h1 hw de
    exact q_addg3 (x1 := G) (x2 := E) (x3 := P + 1) h hw dg de (dp.pl _) (Or.inl this)
theorem q_u9_ok : q_urule S X0 m q_u9 := by
  intro X v w ls cls k h hl hw
  obtain ⟨b, h, db⟩ := q_bank_ok h hw
  obtain ⟨mm, h, _, dm⟩ := q_ff_ok h hw db (by omega)
  obtain ⟨lg, lb, lp, G, B, P, h, d1, d2, d3, gg⟩ := q_exg3 h hw
  obtain ⟨h1, h⟩ := q_and_iff.mp h
  have b1 := q_prw_ok h1 hw (d3.sub dm)
  have gg : 0 ≤ B ∨ q_nob (q_gi X 156) (q_gi X 159) (q_gi X 144 39) G P := gg
  refine q_addg2 (x1 := G) (x2 := B) h hw d1 d2 (show 0 ≤ B ∨ q_nob (q_gi X 156) (q_gi X 159) (q_gi X 144 39) G (q_gi X 148 (q_gi X 144 39).toNat) from ?_)
  rcases gg with gg | gg
  · exact Or.inl gg
  · exact Or.inr fun q h1 h2 => gg q h1 (by omega)
theorem q_u10_ok : q_urule S X0 m q_u10 := by
  intro X v w ls cls k h hl hw
  exact q_addg1 (x1 := 0) h hw (q_den.c _) (fun j h1 h2 => by omega)
theorem q_u11_ok : q_urule S X0 m q_u11 := by
  intro X v w ls cls k h hl hw
  obtain ⟨g, G, h, dg⟩ := q_loc_ok h hl
  obtain ⟨x, h, hG, dx⟩ := q_ff_ok h hw dg (by omega)
  simp only [q_and_iff] at h
  obtain ⟨h1, h2, h⟩ := h
  have g1 : ∀ h : Int, 0 ≤ h → h < G → 0 ≤ q_gi X 176 h.toNat ∨ q_nob (q_gi X 156) (q_gi X 159) (q_gi X 144 39) h (q_gi X 148 (q_gi X 144 39).toNat) := q_hasg1 h1 hw dg
  have g2 : 0 ≤ q_gi X 176 G.toNat ∨ q_nob (q_gi X 156) (q_gi X 159) (q_gi X 144 39) G (q_gi X 148 (q_gi X 144 39).toNat) := q_hasg2 h2 hw dg dx
  refine q_addg1 (x1 := G + 1) h hw (dg.pl _) (show ∀ h : Int, 0 ≤ h → h < G + 1 → 0 ≤ q_gi X 176 h.toNat ∨ q_nob (q_gi X 156) (q_gi X 159) (q_gi X 144 39) h (q_gi X 148 (q_gi X 144 39).toNat) from fun a a1 a2 => ?_)
  by_cases e : a = G
  · rw [e]; exact g2
  · exact g1 a a1 (by omega)
theorem q_u12_ok : q_urule S X0 m q_u12 := by
  intro X v w ls cls k h hl hw
  obtain ⟨b, h, db⟩ := q_bank_ok h hw
  obtain ⟨mm, h, _, dm⟩ := q_ff_ok h hw db (by omega)
  obtain ⟨lg, G, h, d1, gg⟩ := q_exg1 h hw
  obtain ⟨h1, h⟩ := q_and_iff.mp h
  have b1 := q_prw_ok h1 hw (d1.sub dm)
  have gg : ∀ h : Int, 0 ≤ h → h < G → 0 ≤ q_gi X 176 h.toNat ∨ q_nob (q_gi X 156) (q_gi X 159) (q_gi X 144 39) h (q_gi X 148 (q_gi X 144 39).toNat) := gg
  exact q_addg0 h hw (show ∀ h : Int, 0 ≤ h → h < q_gi X 149 (q_gi X 144 39).toNat → 0 ≤ q_gi X 176 h.toNat ∨ q_nob (q_gi X 156) (q_gi X 159) (q_gi X 144 39) h (q_gi X 148 (q_gi X 144 39).toNat) from fun a a1 a2 => gg a a1 (by omega))
theorem q_u13_ok : q_urule S X0 m q_u13 := by
  intro X v w ls cls k h hl hw
  obtain ⟨b, h, db⟩ := q_bank_ok h hw
  obtain ⟨g, G, h, dg⟩ := q_loc_ok h hl
  obtain ⟨p, P, h, dp⟩ := q_loc_ok h hl
  obtain ⟨x, h, dx⟩ := q_twn_ok h hw db dp
  obtain ⟨y, h, dy⟩ := q_grp_ok h hw db dg
  obtain ⟨z, h, _, dz⟩ := q_ff_ok h hw dg (by omega)
  obtain ⟨mm, h, _, dm⟩ := q_ff_ok h hw db (by omega)
  obtain ⟨qq, h, _, dq⟩ := q_ff_ok h hw db (by omega)
  simp only [q_and_iff] at h
  obtain ⟨⟨h1, h2⟩, ⟨h3, h4⟩, ⟨h5, h6⟩, h7, h⟩ := h
  have im : (Int.negSucc 0 : Int) = -1 := rfl
  have b1 := q_prw_ok h1 hw (dx.sub dy)
  have b2 := q_prw_ok h2 hw (dy.sub dx)
  have b3 := q_prw_ok h3 hw dg
  have b4 := q_prw_ok h4 hw dp
  have b5 := q_prw_ok h5 hw ((dm.sub dg).pl _)
  have b6 := q_prw_ok h6 hw ((dq.sub dp).pl _)
  rw [im] at b5 b6
  have gg : ∀ h : Int, 0 ≤ h → h < q_gi X 149 (q_gi X 144 39).toNat → 0 ≤ q_gi X 176 h.toNat ∨ q_nob (q_gi X 156) (q_gi X 159) (q_gi X 144 39) h (q_gi X 148 (q_gi X 144 39).toNat) := q_hasg_ok h7 hw
  have : 0 ≤ q_gi X 176 G.toNat := by
    rcases gg G b3 (by omega) with e | e
    · exact e
    · exact absurd (by omega) (e P b4 (by omega))
  exact q_uok.of0 (q_asm1_ok h hw dz this)
theorem q_u14_ok : q_urule S X0 m q_u14 := by
  intro X v w ls cls k h hl hw
  obtain ⟨b, h, db⟩ := q_bank_ok h hw
  obtain ⟨h1, h⟩ := q_and_iff.mp h
  have g : q_HV (q_gi X 170) (q_gi X 162) (q_gi X 163) (q_gi X 164) (q_gi X 144 39) := q_hasg_ok h1 hw
  exact q_addg1 h hw db g
theorem q_u15_ok : q_urule S X0 m q_u15 := by
  intro X v w ls cls k h hl hw
  obtain ⟨b, h, db⟩ := q_bank_ok h hw
  obtain ⟨f, h, hb, df⟩ := q_ff_ok h hw db (by omega)
  obtain ⟨hh, h, _, dh⟩ := q_ff_ok h hw db (by omega)
  simp only [q_and_iff] at h
  obtain ⟨h1, h2, h⟩ := h
  obtain ⟨c1, c2⟩ : q_HV (q_gi X 170) (q_gi X 162) (q_gi X 163) (q_gi X 164) (q_gi X 144 39) := q_hasg1 h1 hw db
  have e := q_eqw_ok h2 hw dh (q_den.i 1)
  obtain ⟨r1, r2, d, r3⟩ := c2 e
  have ej : (((q_gi X 144 39).toNat : Nat) : Int) = q_gi X 144 39 := by omega
  have hl2 : q_len 163 = 2 := by decide +kernel
  obtain ⟨w', a, v', k1, k2, k3, k4⟩ := q_rd_ok (kc := 163) (j := (q_gi X 144 39).toNat) h hw (q_den.c' _) (by rw [ej]; exact db) (q_pl163 _) (Or.inl ⟨by omega, by rw [hl2]; omega⟩)
  obtain ⟨t1, k1⟩ := q_and_iff.mp k1
  rw [q_slot_h (by omega)] at k4
  obtain ⟨x, x1, x2⟩ := k4.i t1
  have et : q_gi X 163 (q_gi X 144 39).toNat = x.toInt := by
    show (match q_hs X 163 (q_gi X 144 39).toNat with | .inl (.int x) => x.toInt | _ => 0) = _
    rw [x1]
  rw [et] at r3
  refine q_uok.ext k2 (q_addg3 k1 k3 (df.ext k2) x2 (q_den.c _) ?_)
  obtain ⟨s1, s2, s3⟩ := id r3
  refine ⟨_, d, ⟨s1, Int.le_refl _, ?_⟩, r3, s2⟩
  rw [Int.sub_self]
  rfl
theorem q_wst_ok {ok : qL → qW → Bool} {need : qL → qL} {dn : Int} {P : Int → Prop} {nd : Int → Int} (hok : ∀ {X : zH} {v : Nat → Int} {w : qW} {c : qL} {x : Int}, ok c w = true → q_wg S X0 m v w X → q_den w.1 v c x → P x) (hnd : ∀ {v : Nat → Int} {n : Nat} {l : qL} {x : Int}, q_den n v l x → q_den n v (need l) (nd x))
    (hP : ∀ {cd : Nat → Int} {f a t n d : Int}, P (cd a.toNat) → q_RPN cd f a n → q_RPN cd f t d → a < t → 0 ≤ nd n ∧ q_RPN cd f (a + 1) (n + dn)) : q_urule S X0 m (q_wst ok need dn) := by
  intro X v w ls cls k h hl hw
  unfold q_wst at h
  obtain ⟨x, a, h, dx⟩ := q_loc_ok h hl
  obtain ⟨n, N, h, dnn⟩ := q_loc_ok h hl
  obtain ⟨c, h, ha, dc⟩ := q_ff_ok h hw dx (by omega)
  obtain ⟨h1, h⟩ := q_and_iff.mp h
  obtain ⟨l1, l2, l3, K, T, NN, h, d1, d2, d3, g⟩ := q_exg3 h hw
  simp only [q_and_iff] at h
  obtain ⟨h2, h3, h4, h⟩ := h
  have e1 := q_eqw_ok h2 hw d1 dx
  have e2 := q_eqw_ok h3 hw d3 dnn
  subst e1; subst e2
  have b := q_prw_ok h4 hw ((d2.sub dx).pl _)
  have im : (Int.negSucc 0 : Int) = -1 := rfl
  rw [im] at b
  obtain ⟨f, d, g1, g2, g3⟩ : ∃ f d, q_RPN (q_gi X 170) f K NN ∧ q_RPN (q_gi X 170) f T d ∧ K ≤ T := g
  obtain ⟨p1, p2⟩ := hP (hok h1 hw dc) g1 g2 (by omega)
  obtain ⟨w', k1, k2, k3⟩ := q_asm1_ok h hw (hnd dnn) p1
  refine q_uok.same k2 (q_addg3 (x1 := K + 1) (x2 := T) (x3 := NN + dn) k1 k3 (by rw [k2]; exact dx.pl _) (by rw [k2]; exact d2) (by rw [k2]; exact dnn.pl _) ?_)
  exact ⟨f, d, p2, g2, by omega⟩
theorem q_u16_ok : q_urule S X0 m q_u16 := by
  refine q_wst_ok (P := fun x => x = 126) (nd := fun n => n + Int.negSucc 0) (fun h hw hd => q_eqw_ok h hw hd (q_den.i 126)) (fun h => h.pl _) (fun hp g1 g2 hk => ?_)
  have im : (Int.negSucc 0 : Int) = -1 := rfl
  have i0 : (Int.ofNat 0 : Int) = 0 := rfl
  rw [im, i0]
  rcases q_walk g1 g2 hk with ⟨a1, a2, a3, a4⟩ | ⟨a1, a2, a3⟩ | ⟨a1, a2, a3⟩
  · omega
  · exact ⟨by omega, by rw [Int.add_zero]; exact a3⟩
  · omega
theorem q_u17_ok : q_urule S X0 m q_u17 := by
  refine q_wst_ok (P := fun x => Int.ofNat 97 ≤ x ∧ x ≤ Int.ofNat 122) (nd := fun n => -n + Int.ofNat 59) (fun h hw hd => q_inw_ok h hw hd) (fun h => h.ng.pl _) (fun hp g1 g2 hk => ?_)
  have i1 : (Int.ofNat 97 : Int) = 97 := rfl
  have i2 : (Int.ofNat 122 : Int) = 122 := rfl
  have i3 : (Int.ofNat 59 : Int) = 59 := rfl
  have i4 : (Int.ofNat 1 : Int) = 1 := rfl
  rw [i1, i2] at hp
  rw [i3, i4]
  rcases q_walk g1 g2 hk with ⟨a1, a2, a3, a4⟩ | ⟨a1, a2, a3⟩ | ⟨a1, a2, a3⟩
  · exact ⟨by omega, a4⟩
  · omega
  · omega
theorem q_u18_ok : q_urule S X0 m q_u18 := by
  refine q_wst_ok (P := fun x => x ≤ 96 ∨ (123 ≤ x ∧ x ≤ 125) ∨ 127 ≤ x) (nd := fun n => n + Int.negSucc 1) (fun {X v w c x} h hw hd => ?_) (fun h => h.pl _) (fun hp g1 g2 hk => ?_)
  · rcases q_or_iff.mp h with h | h
    · have := q_prw_ok h hw (hd.ng.pl _)
      have i1 : (Int.ofNat 96 : Int) = 96 := rfl
      rw [i1] at this
      exact Or.inl (by omega)
    · rcases q_or_iff.mp h with h | h
      · exact Or.inr (Or.inl (q_inw_ok h hw hd))
      · have := q_prw_ok h hw (hd.pl _)
        have i1 : (Int.negSucc 126 : Int) = -127 := rfl
        rw [i1] at this
        exact Or.inr (Or.inr (by omega))
  · have im : (Int.negSucc 0 : Int) = -1 := rfl
    have im1 : (Int.negSucc 1 : Int) = -2 := rfl
    rw [im, im1]
    rcases q_walk g1 g2 hk with ⟨a1, a2, a3, a4⟩ | ⟨a1, a2, a3⟩ | ⟨a1, a2, a3⟩
    · omega
    · omega
    · exact ⟨by omega, a3⟩
theorem q_sgn_ok {l : qL} {x : Int} (h : q_sgn l w = true) (hw : q_wg S X0 m v w X) (hd : q_den w.1 v l x) : (37 ≤ x ∧ x ≤ 62) ∨ x = 124 := by
  rcases q_or_iff.mp h with h | h
  · exact Or.inl (q_inw_ok h hw hd)
  · exact Or.inr (q_eqw_ok h hw hd (q_den.i 124))
theorem q_u19_ok : q_urule S X0 m q_u19 := by
  intro X v w ls cls k h hl hw
  obtain ⟨lf, lc, ld, f, c, d, h, df, dc, dd, g⟩ := q_exg3 h hw
  obtain ⟨x, h, hc, dx⟩ := q_ff_ok h hw dc (by omega)
  have g : q_RPN (q_gi X 170) f c d := g
  obtain ⟨p1, p2, p3⟩ := q_RPN_app g
  rcases q_if_iff.mp h with ⟨h1, h⟩ | ⟨_, h⟩
  · obtain ⟨h1, h2⟩ := q_and_iff.mp h1
    have b1 := q_inw_ok h1 hw dx
    have b2 := q_prw_ok h2 hw (dd.ng.pl _)
    have i3 : (Int.ofNat 59 : Int) = 59 := rfl
    rw [i3] at b2
    exact q_addg3 (x1 := f) (x2 := c + 1) (x3 := d + 1) h hw df (dc.pl _) (dd.pl _) (p1 b1 (by omega))
  · rcases q_if_iff.mp h with ⟨h1, h⟩ | ⟨_, h⟩
    · obtain ⟨h1, h2⟩ := q_and_iff.mp h1
      have b1 := q_eqw_ok h1 hw dx (q_den.i 126)
      have b2 := q_prw_ok h2 hw (dd.pl _)
      have im : (Int.negSucc 0 : Int) = -1 := rfl
      rw [im] at b2
      exact q_addg3 (x1 := f) (x2 := c + 1) (x3 := d) h hw df (dc.pl _) dd (p2 b1 (by omega))
    · obtain ⟨h1, h⟩ := q_and_iff.mp h
      obtain ⟨h1, h2⟩ := q_and_iff.mp h1
      have b1 := q_sgn_ok h1 hw dx
      have b2 := q_prw_ok h2 hw (dd.pl _)
      have im : (Int.negSucc 1 : Int) = -2 := rfl
      rw [im] at b2
      exact q_addg3 (x1 := f) (x2 := c + 1) (x3 := d - 1) h hw df (dc.pl _) (dd.pl _) (p3 b1 (by omega))
theorem q_u20_ok : q_urule S X0 m q_u20 := by
  intro X v w ls cls k h hl hw
  obtain ⟨lm, lx, M, W, h, dm, dx, g⟩ := q_exg2 h hw
  obtain ⟨a, h, _, da⟩ := q_ff_ok h hw dm (by omega)
  obtain ⟨s, h, _, ds⟩ := q_ff_ok h hw dm (by omega)
  have g : q_pile (q_gi X 172) (q_gi X 173) M.toNat W := g
  obtain ⟨p1, p2⟩ := q_pile_push g
  rcases q_if_iff.mp h with ⟨h1, h⟩ | ⟨_, h⟩
  · refine q_addg2 (x1 := M + 1) (x2 := W + 1) h hw (dm.pl _) (dx.pl _) (p1 ?_)
    rcases q_or_iff.mp h1 with h1 | h1
    · exact Or.inl (q_eqw_ok h1 hw da (q_den.i 7))
    · obtain ⟨h1, h2⟩ := q_and_iff.mp h1
      exact Or.inr ⟨q_eqw_ok h1 hw da (q_den.i 3), q_eqw_ok h2 hw ds (q_den.i 126)⟩
  · obtain ⟨h1, h⟩ := q_and_iff.mp h
    obtain ⟨h1, h2⟩ := q_and_iff.mp h1
    refine q_addg2 (x1 := M + 1) (x2 := W) h hw (dm.pl _) dx (p2 ?_ (q_sgn_ok h2 hw ds))
    rcases q_or_iff.mp h1 with h1 | h1
    · have b1 : 1 ≤ q_gi X 172 M.toNat ∧ q_gi X 172 M.toNat ≤ 2 := q_inw_ok h1 hw da
      omega
    · have b1 : 4 ≤ q_gi X 172 M.toNat ∧ q_gi X 172 M.toNat ≤ 6 := q_inw_ok h1 hw da
      omega
theorem q_u21_ok : q_urule S X0 m q_u21 := by
  intro X v w ls cls k h hl hw
  obtain ⟨a, h, _, da⟩ := q_ff_ok (z := 0) h hw (q_den.c _) (by omega)
  obtain ⟨h1, h⟩ := q_and_iff.mp h
  have e := q_eqw_ok h1 hw da (q_den.i 8)
  exact q_addg2 (x1 := 1) (x2 := 0) h hw (q_den.i 1) (q_den.c _) (show q_gi X 172 0 = 8 ∧ (0 : Int) = 0 from ⟨e, rfl⟩)
theorem q_addf_ok {p c j : Nat} {i a : qL} {x : Int32} (h : q_addf p c i a k w = true) (hw : q_wg S X0 m v w X) (hi : q_den w.1 v i (j : Int)) (hc : c < 190) (hp : q_plc c j = p) (hx : q_hs X c j = .inl (.int x)) (ha : q_den w.1 v a x.toInt) : ∃ w', k w' = true ∧ w'.1 = w.1 ∧ q_wg S X0 m v w' X := by
  unfold q_addf at h
  rw [q_fl_eq, q_cw_eq] at h
  exact ⟨_, h, rfl, q_add_fact hw (q_den.c' _) hi hp (Or.inl hc) (by rw [q_slot_h hc, hx]; exact q_rg_vi ha)⟩
/-- the int that lies in a slot of the signs' row -/
theorem q_sign_int (hw : q_wg S X0 m v w X) {M : Int} (h1 : 1 ≤ M) (h2 : M ≤ 90) : ∃ x : Int32, q_hs X 173 (M - 1).toNat = .inl (.int x) ∧ q_gi X 173 (M - 1).toNat = x.toInt := by
  have hl2 : q_len 173 = 90 := by decide +kernel
  have hsp := hw.inv.2.2.1 173 (M - 1).toNat (by omega) (by rw [hl2]; omega)
  rw [q_pl173] at hsp
  have e : q_sp 210 = (1, 0, Int.negSucc 2147483647, Int.ofNat 2147483647) := by decide +kernel
  rw [e] at hsp
  obtain ⟨x, x1, _⟩ := hsp.1 rfl
  refine ⟨x, x1, ?_⟩
  unfold q_gi
  rw [x1]
end
