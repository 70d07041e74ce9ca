/-! the checker is sound: words at places, the rest; all of them -/
theorem q_gi_int {X : zH} {c j : Nat} (h : q_gi X c j ≠ 0) : ∃ x : Int32, q_hs X c j = .inl (.int x) ∧ q_gi X c j = x.toInt := by
  unfold q_gi at h ⊢
  split at h
  · rename_i x e
    exact ⟨x, e, rfl⟩
  · exact absurd rfl h
section
variable {S : Nat → Int32} {X0 X : zH} {m : Nat} {v : Nat → Int} {w : qW} {ls : List (Nat × qV)} {cls : zL} {k : qW → Bool}
theorem q_popb_ok {lm lx la : qL} {M W : Int} (h : q_popb lm lx la k w = true) (hw : q_wg S X0 m v w X) (dm : q_den w.1 v lm M) (dx : q_den w.1 v lx W) (da : q_den w.1 v la (q_gi X 172 (M - 1).toNat)) (g : q_pile (q_gi X 172) (q_gi X 173) M.toNat W) (h3 : q_gi X 172 (M - 1).toNat ≠ 3) : q_uok S X0 X m v w k := by
  unfold q_popb at h
  obtain ⟨h1, h⟩ := q_and_iff.mp h
  have b := q_prw_ok h1 hw (da.ng.pl _)
  have i6 : (Int.ofNat 6 : Int) = 6 := rfl
  have im : (Int.negSucc 0 : Int) = -1 := rfl
  have im1 : (Int.negSucc 1 : Int) = -2 := rfl
  rw [i6] at b
  have le := q_pile_le _ _ g
  rcases q_pile_top g with ⟨e1, e2, e3⟩ | ⟨e1, ⟨e2, e3⟩ | ⟨e2, e3, e4⟩⟩
  · omega
  · omega
  · have le2 := q_pile_le _ _ e4
    have e5 : (q_gi X 172 (M - 1).toNat) + Int.negSucc 0 = q_gi X 172 (M - 1).toNat - 1 := by rw [im]; omega
    obtain ⟨w', k1, k2, k3⟩ := q_asm4_ok h hw (da.pl _) (by rw [im]; omega) (dm.pl _) (by rw [im1]; omega) dx (by omega) ((dm.sub dx).pl _) (by rw [im1]; omega)
    obtain ⟨c1, c2⟩ := q_and_iff.mp k1
    obtain ⟨x, x1, x2⟩ := q_gi_int (X := X) (c := 173) (j := (M - 1).toNat) (by omega)
    have dm1 : ∀ {n : Nat} {u : Nat → Int}, q_den n u lm M → q_den n u (q_m1 lm) (((M - 1).toNat : Nat) : Int) := fun hd => by
      have := hd.pl (Int.negSucc 0)
      rw [im] at this
      rw [show (((M - 1).toNat : Nat) : Int) = M + -1 by omega]
      exact this
    have dm2 : ∀ {n : Nat} {u : Nat → Int}, q_den n u lm M → q_den n u (q_m1 lm) (M - 1) := fun hd => by
      have := hd.pl (Int.negSucc 0)
      rw [im] at this
      rw [show M - 1 = M + -1 by omega]
      exact this
    refine q_uok.same k2 ?_
    rw [← k2] at dm dx
    rcases e3 with e3 | e3
    · obtain ⟨w2, l, u, m1, m2, m3, m4⟩ := q_fr0_ok (z := x.toInt) c1 k3 (by show (37 : Int) ≤ _; omega) (by show _ ≤ (62 : Int); omega)
      obtain ⟨w3, r1, r2, r3⟩ := q_addf_ok m1 m3 (dm1 (dm.ext m2)) (by omega) (q_pl173 _) x1 m4
      refine q_uok.ext m2 (q_uok.same r2 (q_addg2 (x1 := M - 1) (x2 := W) r1 r3 (by rw [r2]; exact dm2 (dm.ext m2)) (by rw [r2]; exact dx.ext m2) e4))
    · obtain ⟨w3, r1, r2, r3⟩ := q_addf_ok (x := x) c2 k3 (dm1 dm) (by omega) (q_pl173 _) x1 (by rw [← x2, e3]; exact q_den.i 124)
      exact q_uok.same r2 (q_addg2 (x1 := M - 1) (x2 := W) r1 r3 (by rw [r2]; exact dm2 dm) (by rw [r2]; exact dx) e4)
theorem q_u22_ok : q_urule S X0 m q_u22 := by
  intro X v w ls cls k h hl hw
  obtain ⟨lm, lx, M, W, h, dm, dx, g⟩ := q_exg2 h hw
  rw [q_fl_eq] at h
  have im : (Int.negSucc 0 : Int) = -1 := rfl
  have im1 : (Int.negSucc 1 : Int) = -2 := rfl
  have dm2 : ∀ {n : Nat} {u : Nat → Int}, q_den n u lm M → q_den n u (q_m1 lm) (M - 1) := fun hd => by
    have := hd.pl (Int.negSucc 0)
    rw [im] at this
    rw [show M - 1 = M + -1 by omega]
    exact this
  obtain ⟨la, h, hM, da⟩ := q_ff_ok h hw (dm2 dm) (by omega)
  simp only [q_and_iff] at h
  obtain ⟨h1, h2, h3⟩ := h
  have g : q_pile (q_gi X 172) (q_gi X 173) M.toNat W := g
  have le := q_pile_le _ _ g
  by_cases e3 : q_gi X 172 (M - 1).toNat = 3
  · rcases q_pile_top g with ⟨_, e, _⟩ | ⟨e1, ⟨e2, e4⟩ | ⟨e2, _⟩⟩
    · omega
    · have le2 := q_pile_le _ _ e4
      have es : q_gi X 173 (M - 1).toNat = 126 := by omega
      obtain ⟨w', k1, k2, k3⟩ := q_rel_ok h1 hw da (q_den.i 3) e3
      rw [← k2] at dm dx
      obtain ⟨w2, m1, m2, m3⟩ := q_asm3_ok k1 k3 (dm.pl _) (by rw [im1]; omega) (dx.pl _) (by rw [im]; omega) ((dm.sub dx).pl _) (by rw [im]; omega)
      rw [← m2] at dm dx
      obtain ⟨x, x1, x2⟩ := q_gi_int (X := X) (c := 173) (j := (M - 1).toNat) (by omega)
      obtain ⟨w3, r1, r2, r3⟩ := q_addf_ok (x := x) (j := (M - 1).toNat) m1 m3 (by rw [show (((M - 1).toNat : Nat) : Int) = M - 1 by omega]; exact dm2 dm) (by omega) (q_pl173 _) x1 (by rw [← x2, es]; exact q_den.i 126)
      rw [← r2] at dm dx
      refine q_uok.same (r2.trans (m2.trans k2)) (q_addg2 (x1 := M - 1) (x2 := W - 1) r1 r3 (dm2 dm) ?_ e4)
      have := dx.pl (Int.negSucc 0)
      rw [im] at this
      rw [show W - 1 = W + -1 by omega]
      exact this
    · omega
  · by_cases c : q_gi X 172 (M - 1).toNat ≤ 2
    · obtain ⟨w', k1, k2, k3⟩ := q_rel_ok h2 hw da (q_den.i 2) c
      rw [← k2] at dm dx da
      exact q_uok.same k2 (q_popb_ok k1 k3 dm dx da g e3)
    · obtain ⟨w', k1, k2, k3⟩ := q_rel_ok h3 hw da (q_den.i 4) (show (4 : Int) ≤ _ by omega)
      rw [← k2] at dm dx da
      exact q_uok.same k2 (q_popb_ok k1 k3 dm dx da g e3)
theorem q_u23_ok : q_urule S X0 m q_u23 := by
  intro X v w ls cls k h hl hw
  obtain ⟨lm, lx, M, W, h, dm, dx, g⟩ := q_exg2 h hw
  rw [q_fl_eq] at h
  have im : (Int.negSucc 0 : Int) = -1 := rfl
  have im1 : (Int.negSucc 1 : Int) = -2 := rfl
  have i1 : (Int.ofNat 1 : Int) = 1 := rfl
  have dm2 : ∀ {n : Nat} {u : Nat → Int}, q_den n u lm M → q_den n u (q_m1 lm) (M - 1) := fun hd => by
    have := hd.pl (Int.negSucc 0)
    rw [im] at this
    rw [show M - 1 = M + -1 by omega]
    exact this
  obtain ⟨la, h, hM, da⟩ := q_ff_ok h hw (dm2 dm) (by omega)
  simp only [q_and_iff] at h
  obtain ⟨h1, h2, h3⟩ := h
  have g : q_pile (q_gi X 172) (q_gi X 173) M.toNat W := g
  have le := q_pile_le _ _ g
  have no : q_gi X 172 (M - 1).toNat ≤ 6 → q_uok S X0 X m v w k := fun c => by
    obtain ⟨w', k1, _, _⟩ := q_rel_ok h3 hw da (q_den.i 6) c
    cases k1
  rcases q_pile_top g with ⟨e1, e2, e3⟩ | ⟨e1, ⟨e2, e4⟩ | ⟨e2, _⟩⟩
  · obtain ⟨w', k1, k2, k3⟩ := q_rel_ok h2 hw da (q_den.i 8) e2
    rw [← k2] at dm dx
    exact q_uok.same k2 (q_uok.of0 (q_asm4_ok k1 k3 (dm.ng.pl _) (by rw [i1]; omega) (dm.pl _) (by rw [im]; omega) dx (by omega) dx.ng (by omega)))
  · rcases e2 with e2 | e2
    · have le2 := q_pile_le _ _ e4
      obtain ⟨w', k1, k2, k3⟩ := q_rel_ok h1 hw da (q_den.i 7) e2
      rw [← k2] at dm dx
      obtain ⟨w2, m1, m2, m3⟩ := q_asm3_ok k1 k3 (dm.pl _) (by rw [im1]; omega) (dx.pl _) (by rw [im]; omega) ((dm.sub dx).pl _) (by rw [im]; omega)
      rw [← m2] at dm dx
      refine q_uok.same (m2.trans k2) (q_addg2 (x1 := M - 1) (x2 := W - 1) m1 m3 (dm2 dm) ?_ e4)
      have := dx.pl (Int.negSucc 0)
      rw [im] at this
      rw [show W - 1 = W + -1 by omega]
      exact this
    · exact no (by omega)
  · exact no (by omega)
theorem q_u24_ok : q_urule S X0 m q_u24 := by
  intro X v w ls cls k h hl hw
  obtain ⟨lf, lc, ld, f, c, d, h, df, dc, dd, g⟩ := q_exg3 h hw
  exact q_addg2 (x1 := f) (x2 := c) h hw df dc ⟨d, g⟩
theorem q_u25_ok : q_urule S X0 m q_u25 := by
  intro X v w ls cls k h hl hw
  obtain ⟨x, a, h, dx⟩ := q_loc_ok h hl
  obtain ⟨la, h, ha, da⟩ := q_ff_ok h hw dx (by omega)
  obtain ⟨lm, lx, M, W, h, dm, _, g⟩ := q_exg2 h hw
  simp only [q_and_iff] at h
  obtain ⟨h1, h2, h⟩ := h
  have im : (Int.negSucc 0 : Int) = -1 := rfl
  have i6 : (Int.ofNat 6 : Int) = 6 := rfl
  have b := q_prw_ok h2 hw (da.ng.pl _)
  rw [i6] at b
  have g : q_pile (q_gi X 172) (q_gi X 173) M.toNat W := g
  have le := (q_pile_le _ _ g).2.2.2
  have : 1 ≤ a := by
    by_cases e : a = 0
    · rw [e] at b
      have b : 0 ≤ -q_gi X 172 0 + 6 := b
      omega
    · omega
  exact q_uok.of0 (q_asm1_ok h hw (dx.pl _) (by rw [im]; omega))
theorem q_u26_ok : q_urule S X0 m q_u26 := by
  intro X v w ls cls k h hl hw
  obtain ⟨c, h, _, dc⟩ := q_ff_ok h hw (q_den.i _) (by omega)
  obtain ⟨h1, h⟩ := q_and_iff.mp h
  have b := q_prw_ok h1 hw dc
  refine q_addg3 h hw dc dc (q_den.c _) ⟨b, Int.le_refl _, ?_⟩
  rw [Int.sub_self]
  rfl
theorem q_u27_ok : q_urule S X0 m q_u27 := by
  intro X v w ls cls k h hl hw
  obtain ⟨b, h, db⟩ := q_rb_ok h hw
  obtain ⟨f, h, _, df⟩ := q_ff_ok h hw db (by omega)
  obtain ⟨c, h, _, dc⟩ := q_ff_ok h hw db (by omega)
  rcases q_if_iff.mp h with ⟨h1, h⟩ | ⟨_, h⟩
  · simp only [q_and_iff] at h
    obtain ⟨h2, ⟨h3, h4⟩, h⟩ := h
    have g : ∃ d, q_RPN (q_gi X 170) (q_gi X 162 (q_gi X 144 40).toNat) (q_gi X 163 (q_gi X 144 40).toNat) d := q_hasg2 h1 hw df dc
    have b1 : 0 ≤ q_gi X 144 40 ∧ q_gi X 144 40 ≤ 1 := q_inw_ok h2 hw db
    have b2 := q_prw_ok h3 hw (df.sub (db.sc _))
    have b3 := q_prw_ok h4 hw (((db.sc _).sub dc).pl _)
    have i1 : (Int.ofNat 560 : Int) = 560 := rfl
    rw [i1] at b2 b3
    exact q_addg1 h hw db ⟨by omega, fun _ => ⟨by omega, by omega, g⟩⟩
  · exact ⟨w, v, h, q_ext.refl _ _, hw⟩
theorem q_u28_ok : q_urule S X0 m q_u28 := by
  intro X v w ls cls k h hl hw
  obtain ⟨b, h, db⟩ := q_rb_ok h hw
  obtain ⟨x, h, _, dx⟩ := q_ff_ok h hw db (by omega)
  simp only [q_and_iff] at h
  obtain ⟨h1, h2, h⟩ := h
  have b1 : 0 ≤ q_gi X 144 40 ∧ q_gi X 144 40 ≤ 1 := q_inw_ok h1 hw db
  have e : q_gi X 164 (q_gi X 144 40).toNat = 0 := q_eqw_ok h2 hw dx (q_den.c _)
  exact q_addg1 h hw db ⟨by omega, fun hh => by omega⟩
theorem q_u29_ok : q_urule S X0 m q_u29 := by
  intro X v w ls cls k h hl hw
  obtain ⟨b, h, db⟩ := q_bank_ok h hw
  obtain ⟨h1, h⟩ := q_and_iff.mp h
  have g : q_HV (q_gi X 170) (q_gi X 162) (q_gi X 163) (q_gi X 164) (q_gi X 144 39) := q_hasg1 h1 hw db
  exact q_addg0 h hw g
theorem q_rules_ok : ∀ r ∈ q_rules, q_urule S X0 m r := List.forall_mem_cons.mpr ⟨q_u0_ok, List.forall_mem_cons.mpr ⟨q_u1_ok, List.forall_mem_cons.mpr ⟨q_u2_ok, List.forall_mem_cons.mpr ⟨q_u3_ok, List.forall_mem_cons.mpr ⟨q_u4_ok, List.forall_mem_cons.mpr ⟨q_u5_ok, List.forall_mem_cons.mpr ⟨q_u6_ok, List.forall_mem_cons.mpr ⟨q_u7_ok, List.forall_mem_cons.mpr ⟨q_u8_ok, List.forall_mem_cons.mpr ⟨q_u9_ok, List.forall_mem_cons.mpr ⟨q_u10_ok, List.forall_mem_cons.mpr ⟨q_u11_ok, List.forall_mem_cons.mpr ⟨q_u12_ok, List.forall_mem_cons.mpr ⟨q_u13_ok, List.forall_mem_cons.mpr ⟨q_u14_ok, List.forall_mem_cons.mpr ⟨q_u15_ok, List.forall_mem_cons.mpr ⟨q_u16_ok, List.forall_mem_cons.mpr ⟨q_u17_ok, List.forall_mem_cons.mpr ⟨q_u18_ok, List.forall_mem_cons.mpr ⟨q_u19_ok, List.forall_mem_cons.mpr ⟨q_u20_ok, List.forall_mem_cons.mpr ⟨q_u21_ok, List.forall_mem_cons.mpr ⟨q_u22_ok, List.forall_mem_cons.mpr ⟨q_u23_ok, List.forall_mem_cons.mpr ⟨q_u24_ok, List.forall_mem_cons.mpr ⟨q_u25_ok, List.forall_mem_cons.mpr ⟨q_u26_ok, List.forall_mem_cons.mpr ⟨q_u27_ok, List.forall_mem_cons.mpr ⟨q_u28_ok, List.forall_mem_cons.mpr ⟨q_u29_ok, fun _ h => absurd h List.not_mem_nil⟩⟩⟩⟩⟩⟩⟩⟩⟩⟩⟩⟩⟩⟩⟩⟩⟩⟩⟩⟩⟩⟩⟩⟩⟩⟩⟩⟩⟩⟩
theorem q_hnt_ok (hs : List Nat) : ∀ {X : zH} {v : Nat → Int} {w : qW}, q_hnt k ls hs w = true → q_lg w.1 v ls cls → q_wg S X0 m v w X → q_uok S X0 X m v w k := by
  induction hs with
  | nil => intro X v w h _ hw; exact ⟨w, v, h, q_ext.refl _ _, hw⟩
  | cons a t ih =>
    intro X v w h hl hw
    obtain ⟨r, hr, h⟩ := q_ob_iff.mp (show q_ob (z_nth q_rules a) (fun r => r ls (q_hnt k ls t) w) = true from h)
    rw [z_nth_eq] at hr
    obtain ⟨w', v', k1, k2, k3⟩ := q_rules_ok r (List.mem_of_getElem? hr) h hl hw
    exact q_uok.ext k2 (ih k1 (hl.ext k2) k3)
end
