/-! the checker is sound: words about rows. First what the words themselves give -/
theorem q_pile_le {wh sg : Nat → Int} : ∀ (n : Nat) (w : Int), q_pile wh sg n w → 1 ≤ n ∧ 0 ≤ w ∧ w + 1 ≤ (n : Int) ∧ wh 0 = 8 := by
  intro n
  induction n with
  | zero => intro w h; exact h.elim
  | succ n ih =>
    intro w h
    cases n with
    | zero =>
      have h : wh 0 = 8 ∧ w = 0 := h
      exact ⟨by omega, by omega, by omega, h.1⟩
    | succ n =>
      rcases (show ((wh (n + 1) = 7 ∨ (wh (n + 1) = 3 ∧ sg (n + 1) = 126)) ∧ q_pile wh sg (n + 1) (w - 1)) ∨ ((wh (n + 1) = 1 ∨ wh (n + 1) = 2 ∨ wh (n + 1) = 4 ∨ wh (n + 1) = 5 ∨ wh (n + 1) = 6) ∧ ((37 ≤ sg (n + 1) ∧ sg (n + 1) ≤ 62) ∨ sg (n + 1) = 124) ∧ q_pile wh sg (n + 1) w) from h) with ⟨_, h⟩ | ⟨_, _, h⟩
      · obtain ⟨a, b, c, e⟩ := ih _ h
        exact ⟨by omega, by omega, by omega, e⟩
      · obtain ⟨a, b, c, e⟩ := ih _ h
        exact ⟨by omega, by omega, by omega, e⟩
/-- the topmost of a pile -/
theorem q_pile_top {wh sg : Nat → Int} {m w : Int} (h : q_pile wh sg m.toNat w) : (m = 1 ∧ wh (m - 1).toNat = 8 ∧ w = 0) ∨ (2 ≤ m ∧ (((wh (m - 1).toNat = 7 ∨ (wh (m - 1).toNat = 3 ∧ sg (m - 1).toNat = 126)) ∧ q_pile wh sg (m - 1).toNat (w - 1)) ∨
    ((wh (m - 1).toNat = 1 ∨ wh (m - 1).toNat = 2 ∨ wh (m - 1).toNat = 4 ∨ wh (m - 1).toNat = 5 ∨ wh (m - 1).toNat = 6) ∧ ((37 ≤ sg (m - 1).toNat ∧ sg (m - 1).toNat ≤ 62) ∨ sg (m - 1).toNat = 124) ∧ q_pile wh sg (m - 1).toNat w))) := by
  have h1 := (q_pile_le _ _ h).1
  obtain ⟨n, hn⟩ : ∃ n, m.toNat = n + 1 := ⟨m.toNat - 1, by omega⟩
  have e : (m - 1).toNat = n := by omega
  rw [e]
  rw [hn] at h
  cases n with
  | zero =>
    have h : wh 0 = 8 ∧ w = 0 := h
    exact Or.inl ⟨by omega, h⟩
  | succ n => exact Or.inr ⟨by omega, h⟩
theorem q_pile_push {wh sg : Nat → Int} {m w : Int} (h : q_pile wh sg m.toNat w) : (wh m.toNat = 7 ∨ (wh m.toNat = 3 ∧ sg m.toNat = 126) → q_pile wh sg (m + 1).toNat (w + 1)) ∧ ((wh m.toNat = 1 ∨ wh m.toNat = 2 ∨ wh m.toNat = 4 ∨ wh m.toNat = 5 ∨ wh m.toNat = 6) → ((37 ≤ sg m.toNat ∧ sg m.toNat ≤ 62) ∨ sg m.toNat = 124) → q_pile wh sg (m + 1).toNat w) := by
  have h1 := (q_pile_le _ _ h).1
  obtain ⟨n, hn⟩ : ∃ n, m.toNat = n + 1 := ⟨m.toNat - 1, by omega⟩
  have e : (m + 1).toNat = n + 2 := by omega
  rw [e]
  rw [hn] at h ⊢
  refine ⟨fun a => Or.inl ⟨a, ?_⟩, fun a b => Or.inr ⟨a, b, h⟩⟩
  have e2 : w + 1 - 1 = w := by omega
  rw [e2]; exact h
theorem q_rpn_uniq {cd : Nat → Int} {f : Nat} : ∀ (n : Nat) (d d' : Int), q_rpn cd f n d → q_rpn cd f n d' → d = d' := by
  intro n
  induction n with
  | zero => intro d d' h h'; exact (show d = 0 from h).trans (show d' = 0 from h').symm
  | succ k ih =>
    intro d d' h h'
    have h : (97 ≤ cd (f + k) ∧ cd (f + k) ≤ 122 ∧ d ≤ 60 ∧ q_rpn cd f k (d - 1)) ∨ (cd (f + k) = 126 ∧ 1 ≤ d ∧ q_rpn cd f k d) ∨ (((37 ≤ cd (f + k) ∧ cd (f + k) ≤ 62) ∨ cd (f + k) = 124) ∧ 1 ≤ d ∧ q_rpn cd f k (d + 1)) := h
    have h' : (97 ≤ cd (f + k) ∧ cd (f + k) ≤ 122 ∧ d' ≤ 60 ∧ q_rpn cd f k (d' - 1)) ∨ (cd (f + k) = 126 ∧ 1 ≤ d' ∧ q_rpn cd f k d') ∨ (((37 ≤ cd (f + k) ∧ cd (f + k) ≤ 62) ∨ cd (f + k) = 124) ∧ 1 ≤ d' ∧ q_rpn cd f k (d' + 1)) := h'
    rcases h with ⟨a1, a2, a3, a4⟩ | ⟨a1, a2, a3⟩ | ⟨a1, a2, a3⟩ <;> rcases h' with ⟨b1, b2, b3, b4⟩ | ⟨b1, b2, b3⟩ | ⟨b1, b2, b3⟩
    · have := ih _ _ a4 b4; omega
    · omega
    · omega
    · omega
    · exact ih _ _ a3 b3
    · omega
    · omega
    · omega
    · have := ih _ _ a3 b3; omega
theorem q_rpn_pre {cd : Nat → Int} {f : Nat} : ∀ (i n : Nat) (d : Int), q_rpn cd f (n + i) d → ∃ d', q_rpn cd f n d' := by
  intro i
  induction i with
  | zero => intro n d h; exact ⟨d, h⟩
  | succ i ih =>
    intro n d h
    have h : (97 ≤ cd (f + (n + i)) ∧ cd (f + (n + i)) ≤ 122 ∧ d ≤ 60 ∧ q_rpn cd f (n + i) (d - 1)) ∨ (cd (f + (n + i)) = 126 ∧ 1 ≤ d ∧ q_rpn cd f (n + i) d) ∨ (((37 ≤ cd (f + (n + i)) ∧ cd (f + (n + i)) ≤ 62) ∨ cd (f + (n + i)) = 124) ∧ 1 ≤ d ∧ q_rpn cd f (n + i) (d + 1)) := h
    rcases h with ⟨_, _, _, h⟩ | ⟨_, _, h⟩ | ⟨_, _, h⟩
    · exact ih _ _ h
    · exact ih _ _ h
    · exact ih _ _ h
/-- a sign of a good formula -/
theorem q_walk {cd : Nat → Int} {f k t n d : Int} (h1 : q_RPN cd f k n) (h2 : q_RPN cd f t d) (hk : k < t) : (97 ≤ cd k.toNat ∧ cd k.toNat ≤ 122 ∧ n ≤ 59 ∧ q_RPN cd f (k + 1) (n + 1)) ∨ (cd k.toNat = 126 ∧ 1 ≤ n ∧ q_RPN cd f (k + 1) n) ∨ (((37 ≤ cd k.toNat ∧ cd k.toNat ≤ 62) ∨ cd k.toNat = 124) ∧ 2 ≤ n ∧ q_RPN cd f (k + 1) (n - 1)) := by
  obtain ⟨a1, a2, a3⟩ := h1
  obtain ⟨b1, b2, b3⟩ := h2
  have e1 : (t - f).toNat = ((k - f).toNat + 1) + ((t - f).toNat - ((k - f).toNat + 1)) := by omega
  rw [e1] at b3
  obtain ⟨d', c⟩ := q_rpn_pre _ _ _ b3
  have e2 : f.toNat + (k - f).toNat = k.toNat := by omega
  have e3 : (k + 1 - f).toNat = (k - f).toNat + 1 := by omega
  have c0 := c
  have c : (97 ≤ cd (f.toNat + (k - f).toNat) ∧ cd (f.toNat + (k - f).toNat) ≤ 122 ∧ d' ≤ 60 ∧ q_rpn cd f.toNat (k - f).toNat (d' - 1)) ∨ (cd (f.toNat + (k - f).toNat) = 126 ∧ 1 ≤ d' ∧ q_rpn cd f.toNat (k - f).toNat d') ∨ (((37 ≤ cd (f.toNat + (k - f).toNat) ∧ cd (f.toNat + (k - f).toNat) ≤ 62) ∨ cd (f.toNat + (k - f).toNat) = 124) ∧ 1 ≤ d' ∧ q_rpn cd f.toNat (k - f).toNat (d' + 1)) := c
  rw [e2] at c
  rcases c with ⟨g1, g2, g3, g4⟩ | ⟨g1, g2, g3⟩ | ⟨g1, g2, g3⟩
  · have := q_rpn_uniq _ _ _ a3 g4
    refine Or.inl ⟨g1, g2, by omega, a1, by omega, ?_⟩
    rw [e3, show n + 1 = d' by omega]; exact c0
  · have := q_rpn_uniq _ _ _ a3 g3
    refine Or.inr (Or.inl ⟨g1, by omega, a1, by omega, ?_⟩)
    rw [e3, show n = d' by omega]; exact c0
  · have := q_rpn_uniq _ _ _ a3 g3
    refine Or.inr (Or.inr ⟨g1, by omega, a1, by omega, ?_⟩)
    rw [e3, show n - 1 = d' by omega]; exact c0
theorem q_RPN_app {cd : Nat → Int} {f c d : Int} (h : q_RPN cd f c d) : ((97 ≤ cd c.toNat ∧ cd c.toNat ≤ 122) → d ≤ 59 → q_RPN cd f (c + 1) (d + 1)) ∧ (cd c.toNat = 126 → 1 ≤ d → q_RPN cd f (c + 1) d) ∧ (((37 ≤ cd c.toNat ∧ cd c.toNat ≤ 62) ∨ cd c.toNat = 124) → 2 ≤ d → q_RPN cd f (c + 1) (d - 1)) := by
  obtain ⟨a1, a2, a3⟩ := h
  have e2 : f.toNat + (c - f).toNat = c.toNat := by omega
  have e3 : (c + 1 - f).toNat = (c - f).toNat + 1 := by omega
  have un : ∀ x : Int, ((97 ≤ cd c.toNat ∧ cd c.toNat ≤ 122 ∧ x ≤ 60 ∧ q_rpn cd f.toNat (c - f).toNat (x - 1)) ∨ (cd c.toNat = 126 ∧ 1 ≤ x ∧ q_rpn cd f.toNat (c - f).toNat x) ∨ (((37 ≤ cd c.toNat ∧ cd c.toNat ≤ 62) ∨ cd c.toNat = 124) ∧ 1 ≤ x ∧ q_rpn cd f.toNat (c - f).toNat (x + 1))) → q_RPN cd f (c + 1) x := fun x hx => by
    refine ⟨a1, by omega, ?_⟩
    rw [e3]
    show (97 ≤ cd (f.toNat + (c - f).toNat) ∧ cd (f.toNat + (c - f).toNat) ≤ 122 ∧ x ≤ 60 ∧ q_rpn cd f.toNat (c - f).toNat (x - 1)) ∨ (cd (f.toNat + (c - f).toNat) = 126 ∧ 1 ≤ x ∧ q_rpn cd f.toNat (c - f).toNat x) ∨ (((37 ≤ cd (f.toNat + (c - f).toNat) ∧ cd (f.toNat + (c - f).toNat) ≤ 62) ∨ cd (f.toNat + (c - f).toNat) = 124) ∧ 1 ≤ x ∧ q_rpn cd f.toNat (c - f).toNat (x + 1))
    rw [e2]; exact hx
  refine ⟨fun g1 g2 => un _ (Or.inl ⟨g1.1, g1.2, by omega, ?_⟩), fun g1 g2 => un _ (Or.inr (Or.inl ⟨g1, g2, a3⟩)), fun g1 g2 => un _ (Or.inr (Or.inr ⟨g1, by omega, ?_⟩))⟩
  · rw [show d + 1 - 1 = d by omega]; exact a3
  · rw [show d - 1 + 1 = d by omega]; exact a3
theorem q_zc_zero {se : Nat → Int} : ∀ (n : Nat), (∀ j, j < n → se j = 0) → q_zc se n = n := by
  intro n
  induction n with
  | zero => intro _; rfl
  | succ n ih =>
    intro h
    show q_zc se n + (if se n = 0 then 1 else 0) = n + 1
    rw [ih fun j hj => h j (by omega), if_pos (h n (by omega))]
theorem q_zc_put {se : Nat → Int} {i : Int} : ∀ (n : Nat), (q_zc se n : Int) = q_zc (fun (j : Nat) => if (j : Int) = i then 1 else se j) n + (if 0 ≤ i ∧ i < (n : Int) ∧ se i.toNat = 0 then 1 else 0) := by
  intro n
  induction n with
  | zero =>
    have : ¬ (0 ≤ i ∧ i < ((0 : Nat) : Int) ∧ se i.toNat = 0) := by omega
    rw [if_neg this]
    rfl
  | succ n ih =>
    show ((q_zc se n + (if se n = 0 then 1 else 0) : Nat) : Int) = ((q_zc (fun (j : Nat) => if (j : Int) = i then 1 else se j) n + (if (if (n : Int) = i then (1 : Int) else se n) = 0 then 1 else 0) : Nat) : Int) + _
    rw [Int.natCast_add, Int.natCast_add, ih]
    by_cases e : (n : Int) = i
    · rw [if_pos e]
      have en : i.toNat = n := by omega
      rw [if_neg (show ¬ (0 ≤ i ∧ i < (n : Int) ∧ se i.toNat = 0) by omega)]
      by_cases z : se n = 0
      · rw [if_pos z, if_neg (show ¬ ((1 : Int) = 0) by omega), if_pos (show 0 ≤ i ∧ i < ((n + 1 : Nat) : Int) ∧ se i.toNat = 0 by rw [en]; exact ⟨by omega, by omega, z⟩)]
        rfl
      · rw [if_neg z, if_neg (show ¬ ((1 : Int) = 0) by omega), if_neg (show ¬ (0 ≤ i ∧ i < ((n + 1 : Nat) : Int) ∧ se i.toNat = 0) by rw [en]; exact fun h => z h.2.2)]
        rfl
    · rw [if_neg e]
      have : (0 ≤ i ∧ i < ((n + 1 : Nat) : Int) ∧ se i.toNat = 0) ↔ (0 ≤ i ∧ i < (n : Int) ∧ se i.toNat = 0) := by
        refine ⟨fun h => ⟨h.1, by omega, h.2.2⟩, fun h => ⟨h.1, by omega, h.2.2⟩⟩
      by_cases c : 0 ≤ i ∧ i < (n : Int) ∧ se i.toNat = 0
      · rw [if_pos c, if_pos (this.mpr c)]; omega
      · rw [if_neg c, if_neg (fun h => c (this.mp h))]; omega
section
variable {S : Nat → Int32} {X0 X : zH} {m : Nat} {v : Nat → Int} {w : qW}
/-- what a word at a place gives -/
def q_uok (S : Nat → Int32) (X0 X : zH) (m : Nat) (v : Nat → Int) (w : qW) (k : qW → Bool) : Prop := ∃ w' v1, k w' = true ∧ q_ext w.1 v w'.1 v1 ∧ q_wg S X0 m v1 w' X
theorem q_uok.of0 {k : qW → Bool} (h : ∃ w', k w' = true ∧ w'.1 = w.1 ∧ q_wg S X0 m v w' X) : q_uok S X0 X m v w k := by
  obtain ⟨w', k1, k2, k3⟩ := h
  exact ⟨w', v, k1, ⟨by omega, q_agr.refl _ _⟩, k3⟩
theorem q_uok.ext {k : qW → Bool} {w' : qW} {v' : Nat → Int} (e : q_ext w.1 v w'.1 v') (h : q_uok S X0 X m v' w' k) : q_uok S X0 X m v w k := by
  obtain ⟨w2, v2, k1, k2, k3⟩ := h
  exact ⟨w2, v2, k1, e.trans k2, k3⟩
theorem q_uok.same {k : qW → Bool} {w' : qW} (e : w'.1 = w.1) (h : q_uok S X0 X m v w' k) : q_uok S X0 X m v w k := q_uok.ext ⟨by omega, q_agr.refl _ _⟩ h
theorem q_loc_ok {ls : List (Nat × qV)} {cls : zL} {i n : Nat} {k : qL → Bool} (h : q_loc ls i k = true) (hl : q_lg n v ls cls) : ∃ l x, k l = true ∧ q_den n v l x := by
  unfold q_loc at h
  obtain ⟨a, h1, h2⟩ := q_ob_iff.mp h
  obtain ⟨h2, h3⟩ := q_and_iff.mp h2
  rw [q_fl_eq] at h3
  obtain ⟨z, g1, g2⟩ := hl.get h1
  obtain ⟨x, e1, e2⟩ := g2.i h2
  exact ⟨_, _, h3, e2⟩
theorem q_ff_ok {p c : Nat} {i : qL} {z : Int} {k : qL → Bool} (h : q_ff p c i k w = true) (hw : q_wg S X0 m v w X) (hi : q_den w.1 v i z) (hc : c < 190) : ∃ l, k l = true ∧ 0 ≤ z ∧ q_den w.1 v l (q_gi X c z.toNat) := by
  unfold q_ff at h
  rw [q_cw_eq] at h
  obtain ⟨a, h1, h2⟩ := q_ob_iff.mp h
  obtain ⟨h2, h3⟩ := q_and_iff.mp h2
  rw [q_fl_eq] at h3
  obtain ⟨f, hf, _, e2, e3, _⟩ := q_find_mem h1
  have hz : 0 ≤ z := by
    obtain ⟨a1, _, _, _, a5, _⟩ := hw v (q_agr.refl _ _)
    obtain ⟨k', j', r1, r2, _⟩ := a5 f hf
    have := q_eq_ok a1 e3
    rw [hi.at] at this
    omega
  have ej : ((z.toNat : Nat) : Int) = z := by omega
  obtain ⟨g1, _⟩ := q_find_ok hw (k := c) (j := z.toNat) (q_den.c' _) (by rw [ej]; exact hi) h1
  obtain ⟨x, x1, x2⟩ := g1.i h2
  refine ⟨_, h3, hz, ?_⟩
  have : q_gi X c z.toNat = x.toInt := by
    unfold q_gi
    rw [← q_slot_h (S := S) hc, x1]
  rw [this]; exact x2
theorem q_addg_ok {g : Nat} {as : List qL} {k : qW → Bool} (h : q_addg g as k w = true) (hw : q_wg S X0 m v w X) (hg : ∀ u, q_agr w.1 v u → q_gok X g (as.map (q_ev u))) : q_uok S X0 X m v w k := by
  unfold q_addg at h
  have h := q_fls_ok _ h
  rw [q_cw_eq] at h
  refine q_uok.of0 ⟨_, h, rfl, fun u hu => ?_⟩
  obtain ⟨a1, a2, a3, a4, a5, a6⟩ := hw u hu
  refine ⟨a1, a2, a3, a4, a5, fun x hx => ?_⟩
  rcases List.mem_cons.mp hx with e | e
  · rw [e]; exact hg u hu
  · exact a6 x e
theorem q_addg0 {g : Nat} {k : qW → Bool} (h : q_addg g [] k w = true) (hw : q_wg S X0 m v w X) (hg : q_gok X g []) : q_uok S X0 X m v w k := q_addg_ok h hw fun _ _ => hg
theorem q_addg1 {g : Nat} {l1 : qL} {x1 : Int} {k : qW → Bool} (h : q_addg g [l1] k w = true) (hw : q_wg S X0 m v w X) (d1 : q_den w.1 v l1 x1) (hg : q_gok X g [x1]) : q_uok S X0 X m v w k := q_addg_ok h hw fun u hu => by
  show q_gok X g [q_ev u l1]
  rw [d1 u hu]; exact hg
theorem q_addg2 {g : Nat} {l1 l2 : qL} {x1 x2 : Int} {k : qW → Bool} (h : q_addg g [l1, l2] k w = true) (hw : q_wg S X0 m v w X) (d1 : q_den w.1 v l1 x1) (d2 : q_den w.1 v l2 x2) (hg : q_gok X g [x1, x2]) : q_uok S X0 X m v w k := q_addg_ok h hw fun u hu => by
  show q_gok X g [q_ev u l1, q_ev u l2]
  rw [d1 u hu, d2 u hu]; exact hg
theorem q_addg3 {g : Nat} {l1 l2 l3 : qL} {x1 x2 x3 : Int} {k : qW → Bool} (h : q_addg g [l1, l2, l3] k w = true) (hw : q_wg S X0 m v w X) (d1 : q_den w.1 v l1 x1) (d2 : q_den w.1 v l2 x2) (d3 : q_den w.1 v l3 x3) (hg : q_gok X g [x1, x2, x3]) : q_uok S X0 X m v w k := q_addg_ok h hw fun u hu => by
  show q_gok X g [q_ev u l1, q_ev u l2, q_ev u l3]
  rw [d1 u hu, d2 u hu, d3 u hu]; exact hg
theorem q_hasg_ok {g : Nat} {as : List qL} (h : q_hasg g as w = true) (hw : q_wg S X0 m v w X) : q_gok X g (as.map (q_ev v)) := by
  unfold q_hasg at h
  rw [q_cw_eq] at h
  obtain ⟨a1, a2, a3, a4, a5, a6⟩ := hw v (q_agr.refl _ _)
  obtain ⟨x, hx, e1, e2⟩ := q_ghas_ok a1 h
  rw [← e2, ← e1]
  exact a6 x hx
theorem q_hasg1 {g : Nat} {l1 : qL} {x1 : Int} (h : q_hasg g [l1] w = true) (hw : q_wg S X0 m v w X) (d1 : q_den w.1 v l1 x1) : q_gok X g [x1] := by
  have : q_gok X g [q_ev v l1] := q_hasg_ok h hw
  rwa [d1.at] at this
theorem q_hasg2 {g : Nat} {l1 l2 : qL} {x1 x2 : Int} (h : q_hasg g [l1, l2] w = true) (hw : q_wg S X0 m v w X) (d1 : q_den w.1 v l1 x1) (d2 : q_den w.1 v l2 x2) : q_gok X g [x1, x2] := by
  have : q_gok X g [q_ev v l1, q_ev v l2] := q_hasg_ok h hw
  rwa [d1.at, d2.at] at this
theorem q_hasg3 {g : Nat} {l1 l2 l3 : qL} {x1 x2 x3 : Int} (h : q_hasg g [l1, l2, l3] w = true) (hw : q_wg S X0 m v w X) (d1 : q_den w.1 v l1 x1) (d2 : q_den w.1 v l2 x2) (d3 : q_den w.1 v l3 x3) : q_gok X g [x1, x2, x3] := by
  have : q_gok X g [q_ev v l1, q_ev v l2, q_ev v l3] := q_hasg_ok h hw
  rwa [d1.at, d2.at, d3.at] at this
theorem q_exg_ok {g : Nat} {f : List qL → Bool} (h : q_exg g f w = true) (hw : q_wg S X0 m v w X) : ∃ as, f as = true ∧ (∀ l ∈ as, q_den w.1 v l (q_ev v l)) ∧ q_gok X g (as.map (q_ev v)) := by
  unfold q_exg at h
  rw [q_cw_eq] at h
  obtain ⟨x, hx, h⟩ := q_any_ok h
  simp only [q_and_iff] at h
  obtain ⟨h1, h2, h3⟩ := h
  refine ⟨x.2, h3, fun l hl => q_sco_den (q_all_ok h2 l hl) v, ?_⟩
  rw [← q_beq_iff.mp h1]
  exact (hw v (q_agr.refl _ _)).2.2.2.2.2 x hx
theorem q_exg1 {g : Nat} {f : qL → Bool} (h : q_exg g (fun as => q_a1 as f) w = true) (hw : q_wg S X0 m v w X) : ∃ l x, f l = true ∧ q_den w.1 v l x ∧ q_gok X g [x] := by
  obtain ⟨as, h, hd, hg⟩ := q_exg_ok h hw
  obtain ⟨a, t, e, h⟩ := q_lc_iff.mp h
  obtain ⟨h1, h⟩ := q_and_iff.mp h
  rw [q_nil_iff.mp h1] at e
  subst e
  exact ⟨a, _, h, hd a (List.mem_cons_self ..), hg⟩
theorem q_exg2 {g : Nat} {f : qL → qL → Bool} (h : q_exg g (fun as => q_a2 as f) w = true) (hw : q_wg S X0 m v w X) : ∃ l l2 x x2, f l l2 = true ∧ q_den w.1 v l x ∧ q_den w.1 v l2 x2 ∧ q_gok X g [x, x2] := by
  obtain ⟨as, h, hd, hg⟩ := q_exg_ok h hw
  obtain ⟨a, t, e, h⟩ := q_lc_iff.mp h
  obtain ⟨a2, t2, e2, h⟩ := q_lc_iff.mp h
  obtain ⟨h1, h⟩ := q_and_iff.mp h
  rw [q_nil_iff.mp h1] at e2
  subst e2; subst e
  exact ⟨a, a2, _, _, h, hd a (List.mem_cons_self ..), hd a2 (List.mem_cons_of_mem _ (List.mem_cons_self ..)), hg⟩
theorem q_exg3 {g : Nat} {f : qL → qL → qL → Bool} (h : q_exg g (fun as => q_a3 as f) w = true) (hw : q_wg S X0 m v w X) : ∃ l l2 l3 x x2 x3, f l l2 l3 = true ∧ q_den w.1 v l x ∧ q_den w.1 v l2 x2 ∧ q_den w.1 v l3 x3 ∧ q_gok X g [x, x2, x3] := by
  obtain ⟨as, h, hd, hg⟩ := q_exg_ok h hw
  obtain ⟨a, t, e, h⟩ := q_lc_iff.mp h
  obtain ⟨a2, t2, e2, h⟩ := q_lc_iff.mp h
  obtain ⟨a3, t3, e3, h⟩ := q_lc_iff.mp h
  obtain ⟨h1, h⟩ := q_and_iff.mp h
  rw [q_nil_iff.mp h1] at e3
  subst e3; subst e2; subst e
  exact ⟨a, a2, a3, _, _, _, h, hd a (List.mem_cons_self ..), hd a2 (List.mem_cons_of_mem _ (List.mem_cons_self ..)), hd a3 (List.mem_cons_of_mem _ (List.mem_cons_of_mem _ (List.mem_cons_self ..))), hg⟩
theorem q_prw_ok {l : qL} {x : Int} (h : q_prw l w = true) (hw : q_wg S X0 m v w X) (hl : q_den w.1 v l x) : 0 ≤ x := hw.pr hl (by unfold q_prw at h; rwa [q_cw_eq] at h)
theorem q_eqw_ok {l l2 : qL} {x y : Int} (h : q_eqw l l2 w = true) (hw : q_wg S X0 m v w X) (hl : q_den w.1 v l x) (h2 : q_den w.1 v l2 y) : x = y := by
  unfold q_eqw at h
  rw [q_cw_eq] at h
  have := q_eq_ok hw.b h
  rwa [hl.at, h2.at] at this
theorem q_inw_ok {l : qL} {x lo hi : Int} (h : q_inw l lo hi w = true) (hw : q_wg S X0 m v w X) (hl : q_den w.1 v l x) : lo ≤ x ∧ x ≤ hi := hw.win hl (by unfold q_inw at h; rwa [q_cw_eq] at h)
theorem q_den.i (n : Nat) {k : Nat} {v : Nat → Int} : q_den k v (q_i n) (n : Int) := q_den.c _
end
