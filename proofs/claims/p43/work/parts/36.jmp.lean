/-! the checker is sound: jumps -/
def q_rI (r : ClassFile.Cond) (a b : Int) : Prop := match r with
  | .eq => a = b | .ne => a ≠ b | .lt => a < b | .ge => b ≤ a | .gt => b < a | .le => a ≤ b
theorem q_rI_neg {r : ClassFile.Cond} {a b : Int} (h : ¬ q_rI r a b) : q_rI (z_neg r) a b := by
  cases r <;> simp only [q_rI, z_neg] at h ⊢ <;> omega
theorem q_rI_z (r : ClassFile.Cond) (x y : Int32) : z_cmp r (z_n x) (z_n y) = true ↔ q_rI r x.toInt y.toInt := by
  rw [z_cmp_ok]
  have h1 := z_n_int x
  have h2 := z_n_int y
  cases r <;> simp only [zr, q_rI] <;> omega
theorem q_rI_congr {r : ClassFile.Cond} {a b c d : Int} (h1 : a < b ↔ c < d) (h2 : a = b ↔ c = d) (h3 : b < a ↔ d < c) : q_rI r a b ↔ q_rI r c d := by
  cases r with
  | eq => exact h2
  | ne => exact not_congr h2
  | lt => exact h1
  | ge => show b ≤ a ↔ d ≤ c; omega
  | gt => exact h3
  | le => show a ≤ b ↔ c ≤ d; omega
/-- of two longs compared -/
theorem q_lg_sign (x y : Int64) : ((lg_cmp x y).toInt < 0 → x.toInt < y.toInt) ∧ ((lg_cmp x y).toInt = 0 → x.toInt = y.toInt) ∧ (0 < (lg_cmp x y).toInt → y.toInt < x.toInt) := by
  have h1 : x < y ↔ x.toInt < y.toInt := Int64.lt_iff_toInt_lt
  have h2 : y < x ↔ y.toInt < x.toInt := Int64.lt_iff_toInt_lt
  have h3 : x = y ↔ x.toInt = y.toInt := Int64.toInt_inj.symm
  have e1 : (1 : Int32).toInt = 1 := by decide
  have e0 : (0 : Int32).toInt = 0 := by decide
  have em : (-1 : Int32).toInt = -1 := by decide
  unfold lg_cmp
  by_cases g1 : x > y
  · rw [if_pos g1, e1]
    have := h2.mp g1
    omega
  · rw [if_neg g1]
    have g1' : ¬ y.toInt < x.toInt := fun h => g1 (h2.mpr h)
    by_cases g2 : x = y
    · rw [if_pos g2, e0]
      have := h3.mp g2
      omega
    · rw [if_neg g2, em]
      have g2' : ¬ x.toInt = y.toInt := fun h => g2 (h3.mpr h)
      omega
section
variable {S : Nat → Int32} {X0 X : zH} {m : Nat} {v : Nat → Int} {w : qW}
theorem q_asmv_ok {ls : List qL} {k : qW → Bool} (h : q_asm ls k w = true) (hw : q_wg S X0 m v w X) (hl : ∀ v', q_agr w.1 v v' → ∀ l ∈ ls, 0 ≤ q_ev v' l) : ∃ w', k w' = true ∧ w'.1 = w.1 ∧ q_wg S X0 m v w' X := by
  unfold q_asm at h
  rw [q_cw_eq] at h
  obtain ⟨b', cs', k1, k2⟩ := q_assk_ok ls hw.b hw.c (hl v (q_agr.refl _ _)) h
  refine ⟨_, k1, rfl, fun v' hv => ?_⟩
  obtain ⟨a1, a2, a3, a4, a5, a6⟩ := hw v' hv
  obtain ⟨r1, r2⟩ := k2 v' (hl v' hv) a1 a2
  exact ⟨r1, r2, a3, a4, a5, a6⟩
theorem q_rel_tri {r : ClassFile.Cond} {x y : qL} {k : qW → Bool} {s : Int} (h : q_rel r x y k w = true) (hw : q_wg S X0 m v w X) (hs : q_rI r s 0) (ht : ∀ v', q_agr w.1 v v' → (s < 0 → q_ev v' x < q_ev v' y) ∧ (s = 0 → q_ev v' x = q_ev v' y) ∧ (0 < s → q_ev v' y < q_ev v' x)) : ∃ w', k w' = true ∧ w'.1 = w.1 ∧ q_wg S X0 m v w' X := by
  have im : (Int.negSucc 0 : Int) = -1 := rfl
  have one : ∀ {l : qL}, (∀ v', q_agr w.1 v v' → 0 ≤ q_ev v' l) → ∀ v', q_agr w.1 v v' → ∀ c ∈ [l], 0 ≤ q_ev v' c := fun hl v' hv c hc => by rw [List.mem_singleton.mp hc]; exact hl v' hv
  cases r with
  | eq =>
    have hs : s = 0 := hs
    refine q_asmv_ok (show q_asm [q_sub x y, q_sub y x] k w = true from h) hw fun v' hv c hc => ?_
    have := (ht v' hv).2.1 hs
    rcases List.mem_cons.mp hc with e | e
    · rw [e, q_ev_sub]; omega
    · rw [List.mem_singleton.mp e, q_ev_sub]; omega
  | ne =>
    have hs : s ≠ 0 := hs
    obtain ⟨h1, h2⟩ := q_and_iff.mp (show q_and (q_asm [q_pl (q_sub x y) (Int.negSucc 0)] k w) (q_asm [q_pl (q_sub y x) (Int.negSucc 0)] k w) = true from h)
    rcases Int.lt_or_gt_of_ne hs with h3 | h3
    · refine q_asmv_ok h2 hw (one fun v' hv => ?_)
      have := (ht v' hv).1 h3
      rw [q_ev_pl, q_ev_sub, im]; omega
    · refine q_asmv_ok h1 hw (one fun v' hv => ?_)
      have := (ht v' hv).2.2 h3
      rw [q_ev_pl, q_ev_sub, im]; omega
  | lt =>
    have hs : s < 0 := hs
    refine q_asmv_ok (show q_asm [q_pl (q_sub y x) (Int.negSucc 0)] k w = true from h) hw (one fun v' hv => ?_)
    have := (ht v' hv).1 hs
    rw [q_ev_pl, q_ev_sub, im]; omega
  | ge =>
    have hs : 0 ≤ s := hs
    refine q_asmv_ok (show q_asm [q_sub x y] k w = true from h) hw (one fun v' hv => ?_)
    obtain ⟨a1, a2, a3⟩ := ht v' hv
    rw [q_ev_sub]; omega
  | gt =>
    have hs : 0 < s := hs
    refine q_asmv_ok (show q_asm [q_pl (q_sub x y) (Int.negSucc 0)] k w = true from h) hw (one fun v' hv => ?_)
    have := (ht v' hv).2.2 hs
    rw [q_ev_pl, q_ev_sub, im]; omega
  | le =>
    have hs : s ≤ 0 := hs
    refine q_asmv_ok (show q_asm [q_sub y x] k w = true from h) hw (one fun v' hv => ?_)
    obtain ⟨a1, a2, a3⟩ := ht v' hv
    rw [q_ev_sub]; omega
theorem q_rI_sub {r : ClassFile.Cond} {a b : Int} : q_rI r (a - b) 0 ↔ q_rI r a b := q_rI_congr (by omega) (by omega) (by omega)
theorem q_tri_den {x y : qL} {a b : Int} (hx : q_den w.1 v x a) (hy : q_den w.1 v y b) : ∀ v', q_agr w.1 v v' → (a - b < 0 → q_ev v' x < q_ev v' y) ∧ (a - b = 0 → q_ev v' x = q_ev v' y) ∧ (0 < a - b → q_ev v' y < q_ev v' x) := fun v' hv => by
  rw [hx v' hv, hy v' hv]
  omega
theorem q_rel_ok {r : ClassFile.Cond} {x y : qL} {k : qW → Bool} {a b : Int} (h : q_rel r x y k w = true) (hw : q_wg S X0 m v w X) (hx : q_den w.1 v x a) (hy : q_den w.1 v y b) (hr : q_rI r a b) : ∃ w', k w' = true ∧ w'.1 = w.1 ∧ q_wg S X0 m v w' X :=
  q_rel_tri h hw (q_rI_sub.mpr hr) (q_tri_den hx hy)
end
section
variable {S : Nat → Int32} {Ms : List zM} {d : Nat} {M : zM} {L : zR → Prop} {X0 : zH} {m n1 : Nat} {v1 : Nat → Int} {e : zE}
/-- on from a world with the same vars -/
theorem q_good.go0 {K : qK} (hK : q_good S d M L X0 m n1 v1 K) {pc : Nat} {ls : List (Nat × qV)} {st : List qV} {w w' : qW} {v : Nat → Int} {cls : zL} {cst : List zV} {X : zH} (h : K (pc, ls, st, w') = true) (hn : n1 ≤ w.1) (hv : q_agr n1 v1 v) (e : w'.1 = w.1) (hl : q_lg w.1 v ls cls) (hst : q_stg w.1 v st cst) (hw : q_wg S X0 m v w' X) : zEnds S d M (pc, cls, cst, X, zm_mc M, zm_ms M) L := by
  refine hK.go h hn hv (n := w.1) (v' := v) ⟨by omega, q_agr.refl _ _⟩ ?_ ?_ hw
  · rw [e]; exact hl
  · rw [e]; exact hst
theorem q_cnd_tri {r : ClassFile.Cond} {g pc : Nat} {x y : qL} {K : qK} {ls : List (Nat × qV)} {t : List qV} {w : qW} {v : Nat → Int} {cls : zL} {cst : List zV} {X : zH} {s : Int} {bo : Bool} (h : q_cnd r g x y pc ls t K w = true) (hK : q_good S d M L X0 m n1 v1 K) (hn : n1 ≤ w.1) (hv : q_agr n1 v1 v) (hl : q_lg w.1 v ls cls) (hst : q_stg w.1 v t cst) (hw : q_wg S X0 m v w X) (ht : ∀ v', q_agr w.1 v v' → (s < 0 → q_ev v' x < q_ev v' y) ∧ (s = 0 → q_ev v' x = q_ev v' y) ∧ (0 < s → q_ev v' y < q_ev v' x)) (hb : bo = true ↔ q_rI r s 0) : zEnds S d M (z_if bo g (Nat.add pc 3), cls, cst, X, zm_mc M, zm_ms M) L := by
  obtain ⟨h1, h2⟩ := q_and_iff.mp (show q_and (q_rel r x y (fun w => q_fn g fun g => K (g, ls, t, w)) w) (q_rel (z_neg r) x y (fun w => q_fn (Nat.add pc 3) fun pc => K (pc, ls, t, w)) w) = true from h)
  cases bo with
  | true =>
    obtain ⟨w', k1, k2, k3⟩ := q_rel_tri h1 hw (hb.mp rfl) ht
    rw [q_fn_eq] at k1
    exact hK.go0 k1 hn hv k2 hl hst k3
  | false =>
    obtain ⟨w', k1, k2, k3⟩ := q_rel_tri h2 hw (q_rI_neg fun h => by cases (hb.mpr h)) ht
    rw [q_fn_eq] at k1
    exact hK.go0 k1 hn hv k2 hl hst k3
theorem q_aIf_ok {r : ClassFile.Cond} {g : Nat} (hs : q_stp S Ms d M L e) (he : z_act S Ms M e = z_aIf r g) : q_aok S Ms d M L X0 m n1 v1 e (q_aIf r g) := by
  refine q_aok_of fun K pc ls st w v cls cst X h hK hn hv hl hst hw hpc => ?_
  simp only [q_aIf, q_ca_eq, q_lc_iff] at h
  obtain ⟨a, t, e1, h⟩ := h
  subst e1
  obtain ⟨za, s1, e3, g1, g2⟩ := hst.cons
  subst e3
  have e0 : (Int32.ofNat 0).toInt = 0 := by decide
  rcases q_if_iff.mp h with ⟨t5, h⟩ | ⟨_, h⟩
  · obtain ⟨xa, xb, e5, _, _⟩ := (g1 v (q_agr.refl _ _)).2.2.2.2.1 (q_beq_iff.mp t5)
    subst e5
    refine hs _ (z_if (z_cmp r (z_n (lg_cmp xa xb)) (z_n (Int32.ofNat 0))) g (Nat.add pc 3), cls, s1, X, zm_mc M, zm_ms M) hpc (by rw [he]; rfl) (q_cnd_tri (s := (lg_cmp xa xb).toInt) h hK hn hv hl g2 hw (fun v' hv' => ?_) (by rw [q_rI_z, e0]))
    obtain ⟨ya, yb, e6, f1, f2⟩ := (g1 v' hv').2.2.2.2.1 (q_beq_iff.mp t5)
    have e7 : lg_cmp xa xb = lg_cmp ya yb := Value.int.inj (Sum.inl.inj e6)
    rw [e7, ← f1, ← f2]
    exact q_lg_sign ya yb
  · obtain ⟨h1, h2⟩ := q_and_iff.mp h
    obtain ⟨xa, e5, da⟩ := g1.i h1
    subst e5
    refine hs _ (z_if (z_cmp r (z_n xa) (z_n (Int32.ofNat 0))) g (Nat.add pc 3), cls, s1, X, zm_mc M, zm_ms M) hpc (by rw [he]; rfl) (q_cnd_tri h2 hK hn hv hl g2 hw (q_tri_den da (q_den.c _)) ?_)
    rw [q_rI_z, e0, q_rI_sub]
    rfl
theorem q_aCmp_ok {r : ClassFile.Cond} {g : Nat} (hs : q_stp S Ms d M L e) (he : z_act S Ms M e = z_aCmp r g) : q_aok S Ms d M L X0 m n1 v1 e (q_aCmp r g) := by
  refine q_aok_of fun K pc ls st w v cls cst X h hK hn hv hl hst hw hpc => ?_
  simp only [q_aCmp, q_ca_eq, q_lc_iff, q_and_iff] at h
  obtain ⟨b, s, e1, a, t, e2, h1, h2, h3⟩ := h
  subst e1; subst e2
  obtain ⟨zb, s1, e3, g1, g2⟩ := hst.cons
  subst e3
  obtain ⟨za, s2, e4, g3, g4⟩ := g2.cons
  subst e4
  obtain ⟨xb, e5, db⟩ := g1.i h2
  obtain ⟨xa, e6, da⟩ := g3.i h1
  subst e5; subst e6
  exact hs _ (z_if (z_cmp r (z_n xa) (z_n xb)) g (Nat.add pc 3), cls, s2, X, zm_mc M, zm_ms M) hpc (by rw [he]; rfl) (q_cnd_tri h3 hK hn hv hl g4 hw (q_tri_den da db) (by rw [q_rI_z, q_rI_sub]))
theorem q_aNul_ok {is : Bool} {g : Nat} (hs : q_stp S Ms d M L e) (he : z_act S Ms M e = z_aNul is g) : q_aok S Ms d M L X0 m n1 v1 e (q_aNul is g) := by
  refine q_aok_of fun K pc ls st w v cls cst X h hK hn hv hl hst hw hpc => ?_
  simp only [q_aNul, q_ca_eq, q_lc_iff, q_and_iff, q_fn_eq] at h
  obtain ⟨a, t, e1, h1, h2⟩ := h
  subst e1
  obtain ⟨za, s1, e3, g1, g2⟩ := hst.cons
  subst e3
  obtain ⟨xa, e5, da⟩ := g1.r h1
  subst e5
  exact hs _ (z_if is g (Nat.add pc 3), cls, s1, X, zm_mc M, zm_ms M) hpc (by rw [he]; rfl) (hK.go h2 hn hv (q_ext.refl _ _) hl g2 hw)
theorem q_tab_ok {x : qL} {ls : List (Nat × qV)} {t : List qV} {K : qK} {w : qW} {v : Nat → Int} {X : zH} {a : Int} (hw : q_wg S X0 m v w X) (hx : q_den w.1 v x a) (gs : List Nat) : ∀ {lo : Int} {k g : Nat}, q_tab x ls t K w gs lo = true → gs[k]? = some g → a = lo + (k : Int) → ∃ w', K (g, ls, t, w') = true ∧ w'.1 = w.1 ∧ q_wg S X0 m v w' X := by
  induction gs with
  | nil => intro lo k g h hk; cases hk
  | cons g0 gs ih =>
    intro lo k g h hk ha
    obtain ⟨h1, h2⟩ := q_and_iff.mp (show q_and (q_rel .eq x (q_c lo) (fun w => q_fn g0 fun g => K (g, ls, t, w)) w) (q_fi (Int.add lo (Int.ofNat 1)) (q_tab x ls t K w gs)) = true from h)
    rw [q_fi_eq] at h2
    cases k with
    | zero =>
      have hk : some g0 = some g := hk
      cases hk
      obtain ⟨w', k1, k2, k3⟩ := q_rel_ok h1 hw hx (q_den.c' lo) (show a = lo by omega)
      rw [q_fn_eq] at k1
      exact ⟨w', k1, k2, k3⟩
    | succ k =>
      refine ih h2 (show gs[k]? = some g from hk) ?_
      show a = lo + 1 + (k : Int)
      omega
theorem q_aTab_ok {dd : Nat} {lo : Int} {gs : List Nat} {K : qK} {pc : Nat} {ls : List (Nat × qV)} {st : List qV} {w : qW} {v : Nat → Int} {cls : zL} {cst : List zV} {X : zH} (hs : q_stp S Ms d M L e) (he : z_act S Ms M e = z_aTab dd (z_n (Int32.ofInt lo)) gs) (hlo : -1000 ≤ lo ∧ lo ≤ 1000) (h : q_aTab dd lo gs K (pc, ls, st, w) = true) (hK : q_good S d M L X0 m n1 v1 K) (hn : n1 ≤ w.1) (hv : q_agr n1 v1 v) (hl : q_lg w.1 v ls cls) (hst : q_stg w.1 v st cst) (hw : q_wg S X0 m v w X) (hpc : pc = e.1) : zEnds S d M (pc, cls, cst, X, zm_mc M, zm_ms M) L := by
  simp only [q_aTab, q_ca_eq, q_lc_iff, q_and_iff] at h
  obtain ⟨a, t, e1, h1, h2, h3, h4⟩ := h
  subst e1
  obtain ⟨za, s1, e3, g1, g2⟩ := hst.cons
  subst e3
  obtain ⟨xa, e5, da⟩ := g1.i h1
  subst e5
  have elo : (z_n (Int32.ofInt lo) : Int) = lo + 2147483648 := by
    rw [z_n_int, Int32.toInt_ofInt_of_le (by omega) (by omega)]
  have ex := z_n_int xa
  refine hs _ (z_tpc dd (z_n (Int32.ofInt lo)) gs (z_n xa), cls, s1, X, zm_mc M, zm_ms M) hpc (by rw [he]; rfl) ?_
  by_cases c1 : xa.toInt < lo
  · obtain ⟨w', k1, k2, k3⟩ := q_rel_ok h2 hw da (q_den.c' lo) c1
    rw [q_fn_eq] at k1
    rw [z_tpc_out (Or.inl (by omega))]
    exact hK.go0 k1 hn hv k2 hl g2 k3
  · by_cases c2 : lo + (gs.length : Int) ≤ xa.toInt
    · obtain ⟨w', k1, k2, k3⟩ := q_rel_ok h3 hw da (q_den.c' _) c2
      rw [q_fn_eq] at k1
      rw [z_tpc_out (Or.inr (by omega))]
      exact hK.go0 k1 hn hv k2 hl g2 k3
    · have hk : (xa.toInt - lo).toNat < gs.length := by omega
      obtain ⟨w', k1, k2, k3⟩ := q_tab_ok hw da gs h4 (List.getElem?_eq_getElem hk) (by omega)
      rw [z_tpc_in (List.getElem?_eq_getElem hk) (by omega)]
      exact hK.go0 k1 hn hv k2 hl g2 k3
theorem q_lk_in : ∀ (ps : List (Int × Int)) (d k : Int), Op.lookupswitch.offset ps d k = d ∨ ∃ q ∈ ps, q.1 = k ∧ Op.lookupswitch.offset ps d k = q.2
  | [], d, k => Or.inl rfl
  | q :: ps, d, k => by
    rw [show q :: ps = (q.1, q.2) :: ps from rfl, Op.lookupswitch.offset_cons]
    by_cases h : q.1 = k
    · rw [if_pos h]; exact Or.inr ⟨q, List.mem_cons_self, h, rfl⟩
    · rw [if_neg h]
      rcases q_lk_in ps d k with e | ⟨r, hr, e⟩
      · exact Or.inl e
      · exact Or.inr ⟨r, List.mem_cons_of_mem _ hr, e⟩
theorem q_lks_ok {pc : Nat} {x : qL} {ls : List (Nat × qV)} {t : List qV} {K : qK} {w : qW} (ps : List (Int × Int)) (h : q_lks pc x ls t K w ps = true) : ∀ q ∈ ps, q_rel .eq x (q_c q.1) (fun w => q_fn (z_tgt pc q.2) fun g => K (g, ls, t, w)) w = true := by
  induction ps with
  | nil => intro q hq; cases hq
  | cons p ps ih =>
    obtain ⟨h1, h2⟩ := q_and_iff.mp (show q_and (q_rel .eq x (q_c p.1) (fun w => q_fn (z_tgt pc p.2) fun g => K (g, ls, t, w)) w) (q_lks pc x ls t K w ps) = true from h)
    intro q hq
    rcases List.mem_cons.mp hq with e | e
    · rw [e]; exact h1
    · exact ih h2 q e
theorem q_aLku_ok {dd : Int} {ps : List (Int × Int)} (hs : q_stp S Ms d M L e) (he : z_act S Ms M e = z_aLku e.1 dd ps) : q_aok S Ms d M L X0 m n1 v1 e (q_aLku dd ps) := by
  refine q_aok_of fun K pc ls st w v cls cst X h hK hn hv hl hst hw hpc => ?_
  simp only [q_aLku, q_ca_eq, q_lc_iff, q_and_iff, q_fn_eq] at h
  obtain ⟨a, t, e1, h1, h2, h3⟩ := h
  subst e1
  obtain ⟨za, s1, e3, g1, g2⟩ := hst.cons
  subst e3
  obtain ⟨xa, e5, da⟩ := g1.i h1
  subst e5
  refine hs _ (z_tgt pc (Op.lookupswitch.offset ps dd xa.toInt), cls, s1, X, zm_mc M, zm_ms M) hpc (by rw [he, ← hpc]; rfl) ?_
  rcases q_lk_in ps dd xa.toInt with e6 | ⟨q, hq, e7, e8⟩
  · rw [e6]
    exact hK.go h2 hn hv (q_ext.refl _ _) hl g2 hw
  · obtain ⟨w', k1, k2, k3⟩ := q_rel_ok (q_lks_ok ps h3 q hq) hw da (q_den.c' q.1) (show xa.toInt = q.1 by omega)
    rw [q_fn_eq] at k1
    rw [e8]
    exact hK.go0 k1 hn hv k2 hl g2 k3
end
