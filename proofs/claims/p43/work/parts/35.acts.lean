/-! the checker is sound: an instruction -/
/-- what goes on is good: from every state that it takes, the machine comes to an end that L knows -/
def q_good (S : Nat → Int32) (d : Nat) (M : zM) (L : zR → Prop) (X0 : zH) (m n1 : Nat) (v1 : Nat → Int) (K : qK) : Prop := ∀ A v F, K A = true → n1 ≤ A.2.2.2.1 → q_agr n1 v1 v → q_gam S X0 m (zm_mc M, zm_ms M) v A F → zEnds S d M F L
def q_stp (S : Nat → Int32) (Ms : List zM) (d : Nat) (M : zM) (L : zR → Prop) (e : zE) : Prop := ∀ F F', F.1 = e.1 → z_act S Ms M e [] F = some (.inl ([], F')) → zEnds S d M F' L → zEnds S d M F L
def q_aok (S : Nat → Int32) (Ms : List zM) (d : Nat) (M : zM) (L : zR → Prop) (X0 : zH) (m n1 : Nat) (v1 : Nat → Int) (e : zE) (act : qAct) : Prop := ∀ (K : qK) (A : qA) (v : Nat → Int) (F : zF), act K A = true → q_good S d M L X0 m n1 v1 K → n1 ≤ A.2.2.2.1 → q_agr n1 v1 v → q_gam S X0 m (zm_mc M, zm_ms M) v A F → F.1 = e.1 → zEnds S d M F L
section
variable {S : Nat → Int32} {Ms : List zM} {d : Nat} {M : zM} {L : zR → Prop} {X0 : zH} {m n1 : Nat} {v1 : Nat → Int} {e : zE}
theorem q_aok_of {act : qAct} (h : ∀ (K : qK) (pc : Nat) (ls : List (Nat × qV)) (st : List qV) (w : qW) (v : Nat → Int) (cls : zL) (cst : List zV) (X : zH), act K (pc, ls, st, w) = true → q_good S d M L X0 m n1 v1 K → n1 ≤ w.1 → q_agr n1 v1 v → q_lg w.1 v ls cls → q_stg w.1 v st cst → q_wg S X0 m v w X → pc = e.1 → zEnds S d M (pc, cls, cst, X, zm_mc M, zm_ms M) L) : q_aok S Ms d M L X0 m n1 v1 e act := by
  intro K A v F ha hK hn hv hg hpc
  obtain ⟨pc, ls, st, w⟩ := A
  obtain ⟨pc', cls, cst, X, c2⟩ := F
  obtain ⟨e1, _, _, _, e2⟩ := hg v (q_agr.refl _ _)
  have e1 : pc' = pc := e1
  have e2 : c2 = (zm_mc M, zm_ms M) := e2
  subst e1; subst e2
  exact h K pc' ls st w v cls cst X ha hK hn hv (fun v' hv => (hg v' hv).2.1) (fun v' hv => (hg v' hv).2.2.1) (fun v' hv => (hg v' hv).2.2.2.1) hpc
theorem q_good.go {K : qK} (hK : q_good S d M L X0 m n1 v1 K) {pc n : Nat} {ls : List (Nat × qV)} {st : List qV} {w : qW} {v v' : Nat → Int} {cls : zL} {cst : List zV} {X : zH} (h : K (pc, ls, st, w) = true) (hn : n1 ≤ n) (hv : q_agr n1 v1 v) (e : q_ext n v w.1 v') (hl : q_lg w.1 v' ls cls) (hst : q_stg w.1 v' st cst) (hw : q_wg S X0 m v' w X) : zEnds S d M (pc, cls, cst, X, zm_mc M, zm_ms M) L :=
  hK _ v' _ h (Nat.le_trans hn e.1) (q_agr.trans hn hv e.2) fun u hu => ⟨rfl, hl u hu, hst u hu, hw u hu, rfl⟩
theorem q_aK_ok {n : Nat} {a : qV} {z : zV} (hs : q_stp S Ms d M L e) (he : z_act S Ms M e = z_aK n z) (ha : ∀ k v, q_rg k v a z) : q_aok S Ms d M L X0 m n1 v1 e (q_aK n a) := by
  refine q_aok_of fun K pc ls st w v cls cst X h hK hn hv hl hst hw hpc => ?_
  simp only [q_aK, q_ca_eq, q_fn_eq] at h
  exact hs _ (Nat.add pc n, cls, z :: cst, X, zm_mc M, zm_ms M) hpc (by rw [he]; rfl) (hK.go h hn hv (q_ext.refl _ _) hl (q_stg.mk (ha _ _) hst) hw)
theorem q_get_mem {ls : List (Nat × qV)} {i : Nat} {a : qV} (h : q_get ls i = some a) : (i, a) ∈ ls := by
  induction ls with
  | nil => cases h
  | cons q t ih =>
    have h : z_if (Nat.beq q.1 i) (some q.2) (q_get t i) = some a := h
    cases e : Nat.beq q.1 i with
    | false => rw [e] at h; exact List.mem_cons_of_mem _ (ih h)
    | true =>
      rw [e] at h
      have h : some q.2 = some a := h
      have e1 := q_beq_iff.mp e
      cases h
      rw [← e1]
      exact List.mem_cons_self ..
theorem q_lg.get {n : Nat} {v : Nat → Int} {ls : List (Nat × qV)} {cls : zL} (hl : q_lg n v ls cls) {i : Nat} {a : qV} (h : q_get ls i = some a) : ∃ z, z_get cls i = some z ∧ q_rg n v a z := by
  have hm := q_get_mem h
  obtain ⟨z, e1, _⟩ := hl v (q_agr.refl _ _) (i, a) hm
  refine ⟨z, e1, fun v' hv => ?_⟩
  obtain ⟨z', e2, r⟩ := hl v' hv (i, a) hm
  rw [show z_get cls i = some z from e1] at e2
  cases e2; exact r
theorem q_aLd_ok {n i : Nat} {ok : qV → Bool} {zok : zV → Bool} (hs : q_stp S Ms d M L e) (he : z_act S Ms M e = z_aLd n i zok) (hok : ∀ {k : Nat} {v : Nat → Int} {a : qV} {z : zV}, q_rg k v a z → ok a = true → zok z = true) : q_aok S Ms d M L X0 m n1 v1 e (q_aLd n i ok) := by
  refine q_aok_of fun K pc ls st w v cls cst X h hK hn hv hl hst hw hpc => ?_
  simp only [q_aLd, q_ca_eq, q_fn_eq, q_fv_eq, q_ob_iff, q_and_iff] at h
  obtain ⟨a, h1, h2, h3⟩ := h
  obtain ⟨z, g1, g2⟩ := hl.get h1
  refine hs _ (Nat.add pc n, cls, z :: cst, X, zm_mc M, zm_ms M) hpc ?_ (hK.go h3 hn hv (q_ext.refl _ _) hl (q_stg.mk g2 hst) hw)
  rw [he]
  show z_ob (z_get cls i) _ = _
  rw [g1]
  show z_if (zok z) _ none = _
  rw [hok g2 h2]
  rfl
theorem q_kInt {k : Nat} {v : Nat → Int} {a : qV} {z : zV} (h : q_rg k v a z) (ht : q_tI a = true) : z_isI z = true := by
  obtain ⟨x, e, _⟩ := h.i ht
  rw [e]; rfl
theorem q_kR {k : Nat} {v : Nat → Int} {a : qV} {z : zV} (h : q_rg k v a z) (ht : q_tR a = true) : z_isR z = true := by
  obtain ⟨x, e, _⟩ := h.r ht
  rw [e]; rfl
theorem q_kLg {k : Nat} {v : Nat → Int} {a : qV} {z : zV} (h : q_rg k v a z) (ht : q_tL a = true) : z_isL z = true := by
  obtain ⟨x, e, _⟩ := h.l ht
  rw [e]; rfl
theorem q_kc1 {k : Nat} {v : Nat → Int} {a : qV} {z : zV} (h : q_rg k v a z) (ht : q_c1 a = true) : z_cat z = 1 := by
  simp only [q_c1, q_or_iff] at ht
  rcases ht with t | t | t
  · obtain ⟨x, e, _⟩ := h.i (q_or_iff.mpr (Or.inl t))
    rw [e]; rfl
  · obtain ⟨x, e, _⟩ := h.r t
    rw [e]; rfl
  · obtain ⟨x, e, _⟩ := h.i (q_or_iff.mpr (Or.inr t))
    rw [e]; rfl
/-! locals -/
theorem q_flt_ok {ok : Nat × qV → Bool} (ls : List (Nat × qV)) : ∀ {k : List (Nat × qV) → Bool}, q_flt ok ls k = true → ∃ ls', k ls' = true ∧ ∀ q ∈ ls', q ∈ ls ∧ ok q = true := by
  induction ls with
  | nil => intro k h; exact ⟨[], h, fun q hq => by cases hq⟩
  | cons a t ih =>
    intro k h
    rcases q_if_iff.mp (show z_if (ok a) (q_flt ok t fun s => k (a :: s)) (q_flt ok t k) = true from h) with ⟨h0, h1⟩ | ⟨_, h1⟩
    · obtain ⟨l', k1, k2⟩ := ih h1
      refine ⟨a :: l', k1, fun q hq => ?_⟩
      rcases List.mem_cons.mp hq with e | e
      · rw [e]; exact ⟨List.mem_cons_self .., h0⟩
      · exact ⟨List.mem_cons_of_mem _ (k2 q e).1, (k2 q e).2⟩
    · obtain ⟨l', k1, k2⟩ := ih h1
      exact ⟨l', k1, fun q hq => ⟨List.mem_cons_of_mem _ (k2 q hq).1, (k2 q hq).2⟩⟩
theorem z_get_put1 (cls : zL) (i j : Nat) (z u : zV) (hj : j ≠ i) (hg : z_get cls j = some u) (hc : j + 1 ≠ i ∨ z_cat u = 1) : z_get (z_put1 cls i z) j = some u := by
  show z_if (Nat.beq i j) (some z) (z_get (List.rec (motive := fun _ => zL) [] (fun q _ ih => z_if (Nat.beq (Prod.fst q) i) ih (z_if (Nat.beq (Nat.succ (Prod.fst q)) i) (z_if (Nat.beq (z_cat (Prod.snd q)) 2) ih (q :: ih)) (q :: ih))) cls) j) = some u
  have e1 : Nat.beq i j = false := by
    cases h : Nat.beq i j with
    | false => rfl
    | true => exact absurd (q_beq_iff.mp h).symm hj
  rw [e1]
  show z_get _ j = some u
  induction cls with
  | nil => cases hg
  | cons q t ih =>
    have hg : z_if (Nat.beq q.1 j) (some q.2) (z_get t j) = some u := hg
    show z_get (z_if (Nat.beq q.1 i) _ _) j = some u
    cases eq : Nat.beq q.1 j with
    | true =>
      rw [eq] at hg
      have hg : some q.2 = some u := hg
      have ej := q_beq_iff.mp eq
      have eu : q.2 = u := Option.some.inj hg
      have e2 : Nat.beq q.1 i = false := by
        cases h : Nat.beq q.1 i with
        | false => rfl
        | true => exact absurd (ej.symm.trans (q_beq_iff.mp h)) hj
      rw [e2]
      have fin : ∀ r : zL, z_get (q :: r) j = some u := fun r => by
        show z_if (Nat.beq q.1 j) (some q.2) (z_get r j) = some u
        rw [eq, eu]
      show z_get (z_if (Nat.beq (Nat.succ q.1) i) _ _) j = some u
      cases h3 : Nat.beq (Nat.succ q.1) i with
      | false => exact fin _
      | true =>
        show z_get (z_if (Nat.beq (z_cat q.2) 2) _ _) j = some u
        rcases hc with hc | hc
        · exact absurd (by rw [← ej]; exact q_beq_iff.mp h3) hc
        · rw [eu, hc]
          exact fin _
    | false =>
      rw [eq] at hg
      have ih := ih hg
      have skip : ∀ r : zL, z_get (q :: r) j = z_get r j := fun r => by
        show z_if (Nat.beq q.1 j) (some q.2) (z_get r j) = z_get r j
        rw [eq]
      cases Nat.beq q.1 i with
      | true => exact ih
      | false =>
        show z_get (z_if (Nat.beq (Nat.succ q.1) i) _ _) j = some u
        cases Nat.beq (Nat.succ q.1) i with
        | false => exact (skip _).trans ih
        | true =>
          show z_get (z_if (Nat.beq (z_cat q.2) 2) _ _) j = some u
          cases Nat.beq (z_cat q.2) 2 with
          | true => exact ih
          | false => exact (skip _).trans ih
theorem z_get_put1_self (cls : zL) (i : Nat) (z : zV) : z_get (z_put1 cls i z) i = some z := by
  show z_if (Nat.beq i i) (some z) _ = some z
  rw [q_beq_iff.mpr rfl]
theorem q_lg_put1 {n : Nat} {v : Nat → Int} {ls ls' : List (Nat × qV)} {cls : zL} {i : Nat} {a : qV} {z : zV} (hl : q_lg n v ls cls) (ha : q_rg n v a z) (h : ∀ q ∈ ls', q ∈ ls ∧ q_k1 i q = true) : q_lg n v ((i, a) :: ls') (z_put1 cls i z) := fun v' hv q hq => by
  rcases List.mem_cons.mp hq with e | e
  · rw [e]; exact ⟨z, z_get_put1_self .., ha v' hv⟩
  · obtain ⟨h1, h2⟩ := h q e
    simp only [q_k1, q_and_iff, q_or_iff, q_not_iff] at h2
    obtain ⟨u, g1, g2⟩ := hl v' hv q h1
    refine ⟨u, z_get_put1 cls i q.1 z u (z_nbeq h2.1) g1 ?_, g2⟩
    rcases h2.2 with h3 | h3
    · exact Or.inl (z_nbeq h3)
    · refine Or.inr (q_kc1 (k := n) (v := v) (a := q.2) (fun v2 hv2 => ?_) h3)
      obtain ⟨u2, g3, g4⟩ := hl v2 hv2 q h1
      rw [g1] at g3
      cases g3; exact g4
theorem q_aSt_ok {n i : Nat} {ok : qV → Bool} {zok : zV → Bool} (hs : q_stp S Ms d M L e) (he : z_act S Ms M e = z_aSt n i (zm_L M) zok) (hok : ∀ {k : Nat} {v : Nat → Int} {a : qV} {z : zV}, q_rg k v a z → ok a = true → zok z = true) : q_aok S Ms d M L X0 m n1 v1 e (q_aSt n i (zm_L M) ok) := by
  refine q_aok_of fun K pc ls st w v cls cst X h hK hn hv hl hst hw hpc => ?_
  simp only [q_aSt, q_ca_eq, q_fn_eq, q_lc_iff, q_and_iff] at h
  obtain ⟨a, t, e1, h1, h2, h3⟩ := h
  subst e1
  obtain ⟨z, s, e2, g1, g2⟩ := hst.cons
  subst e2
  obtain ⟨ls', k1, k2⟩ := q_flt_ok _ h3
  refine hs _ (Nat.add pc n, z_put1 cls i z, s, X, zm_mc M, zm_ms M) hpc ?_ (hK.go k1 hn hv (q_ext.refl _ _) (q_lg_put1 hl g1 k2) g2 hw)
  rw [he]
  show z_if (zok z) (z_if (Nat.blt i (zm_L M)) _ none) none = _
  rw [hok g1 h1, h2]
  rfl
theorem z_get_put2 (cls : zL) (i j : Nat) (z u : zV) (hj : j ≠ i) (hj2 : j ≠ i + 1) (hg : z_get cls j = some u) (hc : j + 1 ≠ i ∨ z_cat u = 1) : z_get (z_put2 cls i z) j = some u := by
  show z_if (Nat.beq i j) (some z) (z_get (List.rec (motive := fun _ => zL) [] (fun q _ ih => z_if (Nat.beq (Prod.fst q) i) ih (z_if (Nat.beq (Prod.fst q) (Nat.succ i)) ih (z_if (Nat.beq (Nat.succ (Prod.fst q)) i) (z_if (Nat.beq (z_cat (Prod.snd q)) 2) ih (q :: ih)) (q :: ih)))) cls) j) = some u
  have e1 : Nat.beq i j = false := by
    cases h : Nat.beq i j with
    | false => rfl
    | true => exact absurd (q_beq_iff.mp h).symm hj
  rw [e1]
  show z_get _ j = some u
  induction cls with
  | nil => cases hg
  | cons q t ih =>
    have hg : z_if (Nat.beq q.1 j) (some q.2) (z_get t j) = some u := hg
    show z_get (z_if (Nat.beq q.1 i) _ _) j = some u
    cases eq : Nat.beq q.1 j with
    | true =>
      rw [eq] at hg
      have hg : some q.2 = some u := hg
      have ej := q_beq_iff.mp eq
      have eu : q.2 = u := Option.some.inj hg
      have e2 : Nat.beq q.1 i = false := by
        cases h : Nat.beq q.1 i with
        | false => rfl
        | true => exact absurd (ej.symm.trans (q_beq_iff.mp h)) hj
      have e3 : Nat.beq q.1 (Nat.succ i) = false := by
        cases h : Nat.beq q.1 (Nat.succ i) with
        | false => rfl
        | true => exact absurd (ej.symm.trans (q_beq_iff.mp h)) hj2
      rw [e2]
      have fin : ∀ r : zL, z_get (q :: r) j = some u := fun r => by
        show z_if (Nat.beq q.1 j) (some q.2) (z_get r j) = some u
        rw [eq, eu]
      show z_get (z_if (Nat.beq q.1 (Nat.succ i)) _ _) j = some u
      rw [e3]
      show z_get (z_if (Nat.beq (Nat.succ q.1) i) _ _) j = some u
      cases h3 : Nat.beq (Nat.succ q.1) i with
      | false => exact fin _
      | true =>
        show z_get (z_if (Nat.beq (z_cat q.2) 2) _ _) j = some u
        rcases hc with hc | hc
        · exact absurd (by rw [← ej]; exact q_beq_iff.mp h3) hc
        · rw [eu, hc]
          exact fin _
    | false =>
      rw [eq] at hg
      have ih := ih hg
      have skip : ∀ r : zL, z_get (q :: r) j = z_get r j := fun r => by
        show z_if (Nat.beq q.1 j) (some q.2) (z_get r j) = z_get r j
        rw [eq]
      cases Nat.beq q.1 i with
      | true => exact ih
      | false =>
        show z_get (z_if (Nat.beq q.1 (Nat.succ i)) _ _) j = some u
        cases Nat.beq q.1 (Nat.succ i) with
        | true => exact ih
        | false =>
          show z_get (z_if (Nat.beq (Nat.succ q.1) i) _ _) j = some u
          cases Nat.beq (Nat.succ q.1) i with
          | false => exact (skip _).trans ih
          | true =>
            show z_get (z_if (Nat.beq (z_cat q.2) 2) _ _) j = some u
            cases Nat.beq (z_cat q.2) 2 with
            | true => exact ih
            | false => exact (skip _).trans ih
theorem q_aSt2_ok {n i : Nat} (hs : q_stp S Ms d M L e) (he : z_act S Ms M e = z_aSt2 n i (zm_L M)) : q_aok S Ms d M L X0 m n1 v1 e (q_aSt2 n i (zm_L M)) := by
  refine q_aok_of fun K pc ls st w v cls cst X h hK hn hv hl hst hw hpc => ?_
  simp only [q_aSt2, q_ca_eq, q_fn_eq, q_lc_iff, q_and_iff] at h
  obtain ⟨a, t, e1, h1, h2, h3⟩ := h
  subst e1
  obtain ⟨z, s, e2, g1, g2⟩ := hst.cons
  subst e2
  obtain ⟨ls', k1, k2⟩ := q_flt_ok _ h3
  have hl' : q_lg w.1 v ((i, a) :: ls') (z_put2 cls i z) := fun v' hv q hq => by
    rcases List.mem_cons.mp hq with e | e
    · rw [e]
      refine ⟨z, ?_, g1 v' hv⟩
      show z_if (Nat.beq i i) (some z) _ = some z
      rw [q_beq_iff.mpr rfl]
    · obtain ⟨h1, h2⟩ := k2 q e
      simp only [q_k2, q_k1, q_and_iff, q_or_iff, q_not_iff] at h2
      obtain ⟨u, g3, g4⟩ := hl v' hv q h1
      refine ⟨u, z_get_put2 cls i q.1 z u (z_nbeq h2.2.1) (z_nbeq h2.1) g3 ?_, g4⟩
      rcases h2.2.2 with h3 | h3
      · exact Or.inl (z_nbeq h3)
      · refine Or.inr (q_kc1 (k := w.1) (v := v) (a := q.2) (fun v2 hv2 => ?_) h3)
        obtain ⟨u2, g5, g6⟩ := hl v2 hv2 q h1
        rw [g3] at g5
        cases g5; exact g6
  refine hs _ (Nat.add pc n, z_put2 cls i z, s, X, zm_mc M, zm_ms M) hpc ?_ (hK.go k1 hn hv (q_ext.refl _ _) hl' g2 hw)
  rw [he]
  show z_if (z_isL z) (z_if (Nat.blt (Nat.succ i) (zm_L M)) _ none) none = _
  rw [q_kLg g1 h1, h2]
  rfl
/-! numbers -/
theorem z_op2_int (f : Int32 → Int32 → Int32) (a b : Int32) : z_op2 f (.inl (.int a)) (.inl (.int b)) = some (.inl (.int (f a b))) := by
  show z_frc (f a b) (fun z => (some (Sum.inl (Value.int z)) : Option zV)) = _
  rw [z_frc_eq]
theorem z_op1_int (f : Int32 → Int32) (a : Int32) : z_op1 f (.inl (.int a)) = some (.inl (.int (f a))) := by
  show z_frc (f a) (fun z => (some (Sum.inl (Value.int z)) : Option zV)) = _
  rw [z_frc_eq]
theorem z_add_int (a b : Int32) : z_add (.inl (.int a)) (.inl (.int b)) = some (.inl (.int (a + b))) := by
  show z_if (Nat.beq a.toBitVec.toNat 0) (some (.inl (.int b))) (z_if (Nat.beq b.toBitVec.toNat 0) (some (.inl (.int a))) (z_op2 (· + ·) (.inl (.int a)) (.inl (.int b)))) = _
  cases h1 : Nat.beq a.toBitVec.toNat 0 with
  | true =>
    rw [z_to0 h1, Int32.zero_add]
  | false =>
    cases h2 : Nat.beq b.toBitVec.toNat 0 with
    | true => rw [z_to0 h2, Int32.add_zero]
    | false => exact z_op2_int _ a b
theorem q_aInc_ok {i : Nat} {c : Int} (hs : q_stp S Ms d M L e) (he : z_act S Ms M e = z_aInc i (zm_L M) (Int32.ofInt c)) : q_aok S Ms d M L X0 m n1 v1 e (fun K A => q_and (q_le (Int.negSucc 127) c) (q_and (q_le c (Int.ofNat 127)) (q_aInc i (zm_L M) c K A))) := by
  refine q_aok_of fun K pc ls st w v cls cst X h hK hn hv hl hst hw hpc => ?_
  simp only [q_aInc, q_ca_eq, q_fn_eq, q_ob_iff, q_and_iff] at h
  obtain ⟨c1, c2, a, h1, h2, h3, h4⟩ := h
  have c1 : -128 ≤ c := q_le_ok.mp c1
  have c2 : c ≤ 127 := q_le_ok.mp c2
  obtain ⟨z, g1, g2⟩ := hl.get h1
  obtain ⟨x, e1, g3⟩ := g2.i h2
  subst e1
  have ec : (Int32.ofInt c).toInt = c := Int32.toInt_ofInt_of_le (by omega) (by omega)
  obtain ⟨w', l, v', k1, k2, k3, k4⟩ := q_res_ok (x := x + Int32.ofInt c) h4 hw (g3.pl c) (fun b1 b2 => by rw [Int32.toInt_add, ec, q_bm b1 b2])
  obtain ⟨ls', r1, r2⟩ := q_flt_ok _ k1
  rw [q_fn_eq] at r1
  refine hs _ (Nat.add pc 3, z_put1 cls i (.inl (.int (x + Int32.ofInt c))), cst, X, zm_mc M, zm_ms M) hpc ?_ (hK.go r1 hn hv k2 (q_lg_put1 (hl.ext k2) (q_rg_vi k4) r2) (hst.ext k2) k3)
  rw [he]
  show z_ob (z_get cls i) _ = _
  rw [g1]
  show z_ob (z_op2 (· + ·) (.inl (.int x)) (.inl (.int (Int32.ofInt c)))) _ = _
  rw [z_op2_int]
  show z_if (Nat.blt i (zm_L M)) _ none = _
  rw [h3]
  rfl
theorem q_aBin_ok {f : qL → qL → (qW → qL → Bool) → qW → Bool} {zf : zV → zV → Option zV} {g : Int32 → Int32 → Int32} {c : Int32 → Prop} (hs : q_stp S Ms d M L e) (he : z_act S Ms M e = z_aBin zf) (hz : ∀ a b : Int32, c b → zf (.inl (.int a)) (.inl (.int b)) = some (.inl (.int (g a b)))) (hf : ∀ X, q_arok S X0 X m f c g) : q_aok S Ms d M L X0 m n1 v1 e (q_aBin f) := by
  refine q_aok_of fun K pc ls st w v cls cst X h hK hn hv hl hst hw hpc => ?_
  simp only [q_aBin, q_ca_eq, q_fn_eq, q_lc_iff, q_and_iff] at h
  obtain ⟨b, s, e1, a, t, e2, h1, h2, h3⟩ := h
  subst e1; subst e2
  obtain ⟨zb, s1, e3, g1, g2⟩ := hst.cons
  subst e3
  obtain ⟨za, s2, e4, g3, g4⟩ := g2.cons
  subst e4
  obtain ⟨xb, e5, db⟩ := g1.i h2
  obtain ⟨xa, e6, da⟩ := g3.i h1
  subst e5; subst e6
  obtain ⟨hc, w', l, v', k1, k2, k3, k4⟩ := hf X h3 hw da db
  refine hs _ (Nat.add pc 1, cls, .inl (.int (g xa xb)) :: s2, X, zm_mc M, zm_ms M) hpc ?_ (hK.go k1 hn hv k2 (hl.ext k2) (q_stg.mk (q_rg_vi k4) (g4.ext k2)) k3)
  rw [he]
  show z_ob (zf (.inl (.int xa)) (.inl (.int xb))) _ = _
  rw [hz xa xb hc]
  rfl
theorem q_aUn_ok {f : qL → (qW → qL → Bool) → qW → Bool} {zf : zV → Option zV} {g : Int32 → Int32} (hs : q_stp S Ms d M L e) (he : z_act S Ms M e = z_aUn zf) (hz : ∀ a : Int32, zf (.inl (.int a)) = some (.inl (.int (g a)))) (hf : ∀ {X : zH} {x : qL} {k : qW → qL → Bool} {w : qW} {v : Nat → Int} {a : Int32}, f x k w = true → q_wg S X0 m v w X → q_den w.1 v x a.toInt → q_out S X0 X m v w k (g a).toInt) : q_aok S Ms d M L X0 m n1 v1 e (q_aUn f) := by
  refine q_aok_of fun K pc ls st w v cls cst X h hK hn hv hl hst hw hpc => ?_
  simp only [q_aUn, q_ca_eq, q_fn_eq, q_lc_iff, q_and_iff] at h
  obtain ⟨a, t, e1, h1, h2⟩ := h
  subst e1
  obtain ⟨za, s1, e3, g1, g2⟩ := hst.cons
  subst e3
  obtain ⟨xa, e5, da⟩ := g1.i h1
  subst e5
  obtain ⟨w', l, v', k1, k2, k3, k4⟩ := hf h2 hw da
  refine hs _ (Nat.add pc 1, cls, .inl (.int (g xa)) :: s1, X, zm_mc M, zm_ms M) hpc ?_ (hK.go k1 hn hv k2 (hl.ext k2) (q_stg.mk (q_rg_vi k4) (g2.ext k2)) k3)
  rw [he]
  show z_ob (zf (.inl (.int xa))) _ = _
  rw [hz xa]
  rfl
theorem q_aI2l_ok (hs : q_stp S Ms d M L e) (he : z_act S Ms M e = z_aUn z_i2l) : q_aok S Ms d M L X0 m n1 v1 e q_aI2l := by
  refine q_aok_of fun K pc ls st w v cls cst X h hK hn hv hl hst hw hpc => ?_
  simp only [q_aI2l, q_ca_eq, q_fn_eq, q_lc_iff, q_and_iff] at h
  obtain ⟨a, t, e1, h1, h2⟩ := h
  subst e1
  obtain ⟨za, s1, e3, g1, g2⟩ := hst.cons
  subst e3
  obtain ⟨xa, e5, da⟩ := g1.i h1
  subst e5
  refine hs _ (Nat.add pc 1, cls, .inl (.long xa.toInt64) :: s1, X, zm_mc M, zm_ms M) hpc ?_ (hK.go h2 hn hv (q_ext.refl _ _) hl (q_stg.mk (q_rg_vl (by rw [Int32.toInt_toInt64]; exact da)) g2) hw)
  rw [he]
  rfl
theorem q_aLop_ok {ok : qV → Bool} {zf : zV → zV → Option zV} (hs : q_stp S Ms d M L e) (he : z_act S Ms M e = z_aBin zf) (hz : ∀ {k : Nat} {v : Nat → Int} {b : qV} {zb : zV} (a : Int64), q_rg k v b zb → ok b = true → ∃ (x : Int64) (y : Value), zb = .inl y ∧ zf (.inl (.long a)) zb = some (.inl (.long x))) : q_aok S Ms d M L X0 m n1 v1 e (q_aLop ok) := by
  refine q_aok_of fun K pc ls st w v cls cst X h hK hn hv hl hst hw hpc => ?_
  simp only [q_aLop, q_ca_eq, q_fn_eq, q_lc_iff, q_and_iff] at h
  obtain ⟨b, s, e1, a, t, e2, h1, h2, h3⟩ := h
  subst e1; subst e2
  obtain ⟨zb, s1, e3, g1, g2⟩ := hst.cons
  subst e3
  obtain ⟨za, s2, e4, g3, g4⟩ := g2.cons
  subst e4
  obtain ⟨xa, e6, da⟩ := g3.l h1
  subst e6
  obtain ⟨x, y, ey, hx⟩ := hz xa g1 h2
  subst ey
  obtain ⟨w', l, v', k1, k2, k3, k4⟩ := q_fr0_ok h3 hw (q_i64 x).1 (q_i64 x).2
  refine hs _ (Nat.add pc 1, cls, .inl (.long x) :: s2, X, zm_mc M, zm_ms M) hpc ?_ (hK.go k1 hn hv k2 (hl.ext k2) (q_stg.mk (q_rg_vl k4) (g4.ext k2)) k3)
  rw [he]
  show z_ob (zf (.inl (.long xa)) (.inl y)) _ = _
  rw [hx]
  rfl
theorem q_aLcm_ok (hs : q_stp S Ms d M L e) (he : z_act S Ms M e = z_aBin z_lcm) : q_aok S Ms d M L X0 m n1 v1 e q_aLcm := by
  refine q_aok_of fun K pc ls st w v cls cst X h hK hn hv hl hst hw hpc => ?_
  simp only [q_aLcm, q_ca_eq, q_fn_eq, q_lc_iff, q_and_iff] at h
  obtain ⟨b, s, e1, a, t, e2, h1, h2, h3⟩ := h
  subst e1; subst e2
  obtain ⟨zb, s1, e3, g1, g2⟩ := hst.cons
  subst e3
  obtain ⟨za, s2, e4, g3, g4⟩ := g2.cons
  subst e4
  obtain ⟨xb, e5, db⟩ := g1.l h2
  obtain ⟨xa, e6, da⟩ := g3.l h1
  subst e5; subst e6
  refine hs _ (Nat.add pc 1, cls, .inl (.int (lg_cmp xa xb)) :: s2, X, zm_mc M, zm_ms M) hpc ?_ (hK.go h3 hn hv (q_ext.refl _ _) hl (q_stg.mk (fun v' hv => ⟨(fun h => by cases h), (fun h => by cases h), (fun h => by cases h), (fun h => by cases h), fun _ => ⟨xa, xb, rfl, (da v' hv).symm, (db v' hv).symm⟩, (fun h => by cases h)⟩) g4) hw)
  rw [he]
  have hz : z_lcm (.inl (.long xa)) (.inl (.long xb)) = some (.inl (.int (lg_cmp xa xb))) := by
    show z_frc (lg_cmp xa xb) (fun z => (some (Sum.inl (Value.int z)) : Option zV)) = _
    rw [z_frc_eq]
  show z_ob (z_lcm (.inl (.long xa)) (.inl (.long xb))) _ = _
  rw [hz]
  rfl
theorem q_aDup_ok (hs : q_stp S Ms d M L e) (he : z_act S Ms M e = z_aDup) : q_aok S Ms d M L X0 m n1 v1 e q_aDup := by
  refine q_aok_of fun K pc ls st w v cls cst X h hK hn hv hl hst hw hpc => ?_
  simp only [q_aDup, q_ca_eq, q_fn_eq, q_lc_iff, q_and_iff] at h
  obtain ⟨a, t, e1, h1, h2⟩ := h
  subst e1
  obtain ⟨za, s1, e3, g1, g2⟩ := hst.cons
  subst e3
  refine hs _ (Nat.add pc 1, cls, za :: za :: s1, X, zm_mc M, zm_ms M) hpc ?_ (hK.go h2 hn hv (q_ext.refl _ _) hl (q_stg.mk g1 (q_stg.mk g1 g2)) hw)
  rw [he]
  show z_if (Nat.beq (z_cat za) 1) _ none = _
  rw [q_kc1 g1 h1]
  rfl
theorem q_aDup2_ok (hs : q_stp S Ms d M L e) (he : z_act S Ms M e = z_aDup2) : q_aok S Ms d M L X0 m n1 v1 e q_aDup2 := by
  refine q_aok_of fun K pc ls st w v cls cst X h hK hn hv hl hst hw hpc => ?_
  simp only [q_aDup2, q_ca_eq, q_fn_eq, q_lc_iff, q_and_iff] at h
  obtain ⟨a, s, e1, b, t, e2, h1, h2, h3⟩ := h
  subst e1; subst e2
  obtain ⟨za, s1, e3, g1, g2⟩ := hst.cons
  subst e3
  obtain ⟨zb, s2, e4, g3, g4⟩ := g2.cons
  subst e4
  refine hs _ (Nat.add pc 1, cls, za :: zb :: za :: zb :: s2, X, zm_mc M, zm_ms M) hpc ?_ (hK.go h3 hn hv (q_ext.refl _ _) hl (q_stg.mk g1 (q_stg.mk g3 (q_stg.mk g1 (q_stg.mk g3 g4)))) hw)
  rw [he]
  show z_if (Nat.beq (z_cat za) 1) (z_if (Nat.beq (z_cat zb) 1) _ none) none = _
  rw [q_kc1 g1 h1, q_kc1 g3 h2]
  rfl
theorem q_aPop_ok (hs : q_stp S Ms d M L e) (he : z_act S Ms M e = z_aPop) : q_aok S Ms d M L X0 m n1 v1 e q_aPop := by
  refine q_aok_of fun K pc ls st w v cls cst X h hK hn hv hl hst hw hpc => ?_
  simp only [q_aPop, q_ca_eq, q_fn_eq, q_lc_iff, q_and_iff] at h
  obtain ⟨a, t, e1, h1, h2⟩ := h
  subst e1
  obtain ⟨za, s1, e3, g1, g2⟩ := hst.cons
  subst e3
  refine hs _ (Nat.add pc 1, cls, s1, X, zm_mc M, zm_ms M) hpc ?_ (hK.go h2 hn hv (q_ext.refl _ _) hl g2 hw)
  rw [he]
  show z_if (Nat.beq (z_cat za) 1) _ none = _
  rw [q_kc1 g1 h1]
  rfl
theorem q_aGoto_ok {g : Nat} (hs : q_stp S Ms d M L e) (he : z_act S Ms M e = z_aGoto g) : q_aok S Ms d M L X0 m n1 v1 e (q_aGoto g) := by
  refine q_aok_of fun K pc ls st w v cls cst X h hK hn hv hl hst hw hpc => ?_
  simp only [q_aGoto, q_ca_eq, q_fn_eq] at h
  exact hs _ (g, cls, cst, X, zm_mc M, zm_ms M) hpc (by rw [he]; rfl) (hK.go h hn hv (q_ext.refl _ _) hl hst hw)
end
