/-! the checker is sound: what is written, and the words about rows -/
/-- one slot has changed -/
def q_set (X : zH) (k j : Nat) (z : zV) (X' : zH) : Prop := X'.1 = X.1 ∧ (∀ k', k' < 190 → q_shape k' (z_hg X k') → q_shape k' (z_hg X' k')) ∧ q_hs X' k j = z ∧ ∀ k' j', k' < 190 → ¬ (k' = k ∧ j' = j) → q_hs X' k' j' = q_hs X k' j'
theorem q_set_o {X : zH} {k j ci : Nat} {fs : List zV} {z : zV} (hX : X.1 = 190) (hk : k < 190) (hs : z_hg X k = some (.inr (ci, fs))) (hj : j < fs.length) : q_set X k j z (z_hs X k (some (.inr (ci, z_lst fs z j)))) := by
  have e : ∀ k', k' < 190 → z_hg (z_hs X k (some (.inr (ci, z_lst fs z j)))) k' = if k' = k then some (.inr (ci, z_lst fs z j)) else z_hg X k' := fun k' h => z_hgs (by omega) (by omega)
  refine ⟨rfl, fun k' h1 h2 => ?_, ?_, fun k' j' h1 h2 => ?_⟩
  · rw [e k' h1]
    by_cases ek : k' = k
    · rw [if_pos ek]
      subst ek
      rw [hs] at h2
      refine ⟨fun h3 => ?_, fun h3 => ?_⟩
      · obtain ⟨fs', f1, f2⟩ := h2.1 h3
        cases f1
        exact ⟨_, rfl, by rw [z_lst_eq, List.length_set]; exact f2⟩
      · obtain ⟨u, f1⟩ := h2.2 h3
        cases f1
    · rw [if_neg ek]; exact h2
  · unfold q_hs
    rw [e k hk, if_pos rfl]
    show (z_lst fs z j).getD j (.inl .null) = z
    rw [z_lst_eq, List.getD_eq_getElem?_getD, List.getElem?_set_self hj]; rfl
  · unfold q_hs
    rw [e k' h1]
    by_cases ek : k' = k
    · rw [if_pos ek]
      subst ek
      rw [hs]
      show (z_lst fs z j).getD j' (.inl .null) = fs.getD j' (.inl .null)
      rw [z_lst_eq, List.getD_eq_getElem?_getD, List.getD_eq_getElem?_getD, List.getElem?_set_ne (fun h => h2 ⟨rfl, h.symm⟩)]
    · rw [if_neg ek]
theorem q_set_a {X : zH} {k j ty len : Nat} {u : List (Nat × zV)} {z : zV} (hX : X.1 = 190) (hk : k < 190) (hs : z_hg X k = some (.inl (ty, len, u))) : q_set X k j z (z_hs X k (some (.inl (ty, len, z_ins u j z)))) := by
  have e : ∀ k', k' < 190 → z_hg (z_hs X k (some (.inl (ty, len, z_ins u j z)))) k' = if k' = k then some (.inl (ty, len, z_ins u j z)) else z_hg X k' := fun k' h => z_hgs (by omega) (by omega)
  refine ⟨rfl, fun k' h1 h2 => ?_, ?_, fun k' j' h1 h2 => ?_⟩
  · rw [e k' h1]
    by_cases ek : k' = k
    · rw [if_pos ek]
      subst ek
      rw [hs] at h2
      refine ⟨fun h3 => ?_, fun h3 => ?_⟩
      · obtain ⟨fs', f1, f2⟩ := h2.1 h3
        cases f1
      · obtain ⟨u', f1⟩ := h2.2 h3
        cases f1
        exact ⟨_, rfl⟩
    · rw [if_neg ek]; exact h2
  · unfold q_hs
    rw [e k hk, if_pos rfl]
    show z_el ty (z_ins u j z) j = z
    rw [z_el_ins, if_pos rfl]
  · unfold q_hs
    rw [e k' h1]
    by_cases ek : k' = k
    · rw [if_pos ek]
      subst ek
      rw [hs]
      show z_el ty (z_ins u j z) j' = z_el ty u j'
      rw [z_el_ins, if_neg (fun h => h2 ⟨rfl, h⟩)]
    · rw [if_neg ek]
theorem q_gi_of {X X' : zH} {k j : Nat} (h : q_hs X' k j = q_hs X k j) : q_gi X' k j = q_gi X k j := by
  unfold q_gi
  rw [h]
/-- a row's places are all one -/
theorem q_plc_a {k b : Nat} (h : (decide ((q_rk (q_reg k)).1 = 0) && decide ((q_rk (q_reg k)).2.2.2 = b)) = true) (j : Nat) : q_plc k j = b := by
  obtain ⟨h1, h2⟩ := Bool.and_eq_true_iff.mp h
  unfold q_plc
  rw [if_neg (by rw [of_decide_eq_true h1]; decide)]
  exact of_decide_eq_true h2
theorem q_pl172 (j : Nat) : q_plc 172 j = 209 := q_plc_a (by decide +kernel) j
theorem q_pl173 (j : Nat) : q_plc 173 j = 210 := q_plc_a (by decide +kernel) j
theorem q_pl170 (j : Nat) : q_plc 170 j = 207 := q_plc_a (by decide +kernel) j
theorem q_pl162 (j : Nat) : q_plc 162 j = 199 := q_plc_a (by decide +kernel) j
theorem q_pl163 (j : Nat) : q_plc 163 j = 200 := q_plc_a (by decide +kernel) j
theorem q_pl164 (j : Nat) : q_plc 164 j = 201 := q_plc_a (by decide +kernel) j
theorem q_pl181 (j : Nat) : q_plc 181 j = 218 := q_plc_a (by decide +kernel) j
theorem q_pl156 (j : Nat) : q_plc 156 j = 193 := q_plc_a (by decide +kernel) j
theorem q_pl159 (j : Nat) : q_plc 159 j = 196 := q_plc_a (by decide +kernel) j
theorem q_pl148 (j : Nat) : q_plc 148 j = 185 := q_plc_a (by decide +kernel) j
theorem q_pl149 (j : Nat) : q_plc 149 j = 186 := q_plc_a (by decide +kernel) j
theorem q_pl176 (j : Nat) : q_plc 176 j = 213 := q_plc_a (by decide +kernel) j
theorem q_pl144 : q_plc 144 39 = 151 ∧ q_plc 144 40 = 152 ∧ q_plc 144 41 = 153 := by decide +kernel
/-- the words hold over what their places hold -/
theorem q_gframe {X X' : zH} {g mk : Nat} {as : List Int} (hm : z_nth q_gfs g = some mk) (h : ∀ k j, k < 190 → Nat.testBit mk (q_plc k j) = true → q_hs X' k j = q_hs X k j) (hg : q_gok X g as) : q_gok X' g as := by
  have row : ∀ {k b : Nat}, k < 190 → (∀ j, q_plc k j = b) → Nat.testBit mk b = true → q_gi X' k = q_gi X k := fun hk hb ht => funext fun j => q_gi_of (h _ j hk (by rw [hb]; exact ht))
  have bank : Nat.testBit mk 151 = true → q_gi X' 144 39 = q_gi X 144 39 := fun ht => q_gi_of (h 144 39 (by omega) (by rw [q_pl144.1]; exact ht))
  unfold q_gok at hg ⊢
  split at hg
  · cases hm
    show q_pile (q_gi X' 172) (q_gi X' 173) _ _
    rw [row (by omega) q_pl172 (by decide +kernel), row (by omega) q_pl173 (by decide +kernel)]; exact hg
  · cases hm
    show q_RPN (q_gi X' 170) _ _ _
    rw [row (by omega) q_pl170 (by decide +kernel)]; exact hg
  · cases hm
    show ∃ d, q_RPN (q_gi X' 170) _ _ d
    rw [row (by omega) q_pl170 (by decide +kernel)]; exact hg
  · cases hm
    show q_HV (q_gi X' 170) (q_gi X' 162) (q_gi X' 163) (q_gi X' 164) _
    rw [row (by omega) q_pl170 (by decide +kernel), row (by omega) q_pl162 (by decide +kernel), row (by omega) q_pl163 (by decide +kernel), row (by omega) q_pl164 (by decide +kernel)]; exact hg
  · cases hm
    show q_HV (q_gi X' 170) (q_gi X' 162) (q_gi X' 163) (q_gi X' 164) (q_gi X' 144 39)
    rw [row (by omega) q_pl170 (by decide +kernel), row (by omega) q_pl162 (by decide +kernel), row (by omega) q_pl163 (by decide +kernel), row (by omega) q_pl164 (by decide +kernel), bank (by decide +kernel)]; exact hg
  · cases hm
    show ∃ f d, q_RPN (q_gi X' 170) f _ _ ∧ q_RPN (q_gi X' 170) f _ d ∧ _
    rw [row (by omega) q_pl170 (by decide +kernel)]; exact hg
  · cases hm
    show ∀ j : Int, 0 ≤ j → _ → q_gi X' 181 j.toNat = 0
    rw [row (by omega) q_pl181 (by decide +kernel)]; exact hg
  · cases hm
    show (∀ j, j < 36 → q_gi X' 181 j ≤ _) ∧ (q_zc (q_gi X' 181) 36 : Int) = _ ∧ _
    rw [row (by omega) q_pl181 (by decide +kernel)]; exact hg
  · cases hm
    rw [row (by omega) q_pl181 (by decide +kernel)]; exact hg
  · cases hm
    rw [row (by omega) q_pl156 (by decide +kernel), row (by omega) q_pl159 (by decide +kernel), bank (by decide +kernel)]; exact hg
  · cases hm
    rw [row (by omega) q_pl156 (by decide +kernel), row (by omega) q_pl159 (by decide +kernel), row (by omega) q_pl148 (by decide +kernel), bank (by decide +kernel)]; exact hg
  · cases hm
    rw [row (by omega) q_pl156 (by decide +kernel), row (by omega) q_pl159 (by decide +kernel), row (by omega) q_pl148 (by decide +kernel), row (by omega) q_pl176 (by decide +kernel), bank (by decide +kernel)]; exact hg
  · cases hm
    rw [row (by omega) q_pl156 (by decide +kernel), row (by omega) q_pl159 (by decide +kernel), row (by omega) q_pl148 (by decide +kernel), row (by omega) q_pl176 (by decide +kernel), row (by omega) q_pl149 (by decide +kernel), bank (by decide +kernel)]; exact hg
  · exact hg.elim
/-! what lies above stays out of a word -/
theorem q_pile_congr {wh sg wh' sg' : Nat → Int} : ∀ (n : Nat) (w : Int), (∀ j, j < n → wh' j = wh j ∧ sg' j = sg j) → q_pile wh sg n w → q_pile wh' sg' n w := by
  intro n
  induction n with
  | zero => intro w _ h; exact h
  | succ n ih =>
    intro w hj h
    cases n with
    | zero =>
      have h : wh 0 = 8 ∧ w = 0 := h
      show wh' 0 = 8 ∧ w = 0
      rw [(hj 0 (by omega)).1]; exact h
    | succ n =>
      have h : ((wh (n + 1) = 7 ∨ (wh (n + 1) = 3 ∧ sg (n + 1) = 126)) ∧ q_pile wh sg (n + 1) (w - 1)) ∨ ((wh (n + 1) = 1 ∨ wh (n + 1) = 2 ∨ wh (n + 1) = 4 ∨ wh (n + 1) = 5 ∨ wh (n + 1) = 6) ∧ ((37 ≤ sg (n + 1) ∧ sg (n + 1) ≤ 62) ∨ sg (n + 1) = 124) ∧ q_pile wh sg (n + 1) w) := h
      show ((wh' (n + 1) = 7 ∨ (wh' (n + 1) = 3 ∧ sg' (n + 1) = 126)) ∧ q_pile wh' sg' (n + 1) (w - 1)) ∨ ((wh' (n + 1) = 1 ∨ wh' (n + 1) = 2 ∨ wh' (n + 1) = 4 ∨ wh' (n + 1) = 5 ∨ wh' (n + 1) = 6) ∧ ((37 ≤ sg' (n + 1) ∧ sg' (n + 1) ≤ 62) ∨ sg' (n + 1) = 124) ∧ q_pile wh' sg' (n + 1) w)
      rw [(hj (n + 1) (by omega)).1, (hj (n + 1) (by omega)).2]
      rcases h with ⟨h1, h2⟩ | ⟨h1, h2, h3⟩
      · exact Or.inl ⟨h1, ih _ (fun j h => hj j (by omega)) h2⟩
      · exact Or.inr ⟨h1, h2, ih _ (fun j h => hj j (by omega)) h3⟩
theorem q_rpn_congr {cd cd' : Nat → Int} {f : Nat} : ∀ (n : Nat) (d : Int), (∀ j, f ≤ j → j < f + n → cd' j = cd j) → q_rpn cd f n d → q_rpn cd' f n d := by
  intro n
  induction n with
  | zero => intro d _ h; exact h
  | succ n ih =>
    intro d hj h
    have h : (97 ≤ cd (f + n) ∧ cd (f + n) ≤ 122 ∧ d ≤ 60 ∧ q_rpn cd f n (d - 1)) ∨ (cd (f + n) = 126 ∧ 1 ≤ d ∧ q_rpn cd f n d) ∨ (((37 ≤ cd (f + n) ∧ cd (f + n) ≤ 62) ∨ cd (f + n) = 124) ∧ 1 ≤ d ∧ q_rpn cd f n (d + 1)) := h
    show (97 ≤ cd' (f + n) ∧ cd' (f + n) ≤ 122 ∧ d ≤ 60 ∧ q_rpn cd' f n (d - 1)) ∨ (cd' (f + n) = 126 ∧ 1 ≤ d ∧ q_rpn cd' f n d) ∨ (((37 ≤ cd' (f + n) ∧ cd' (f + n) ≤ 62) ∨ cd' (f + n) = 124) ∧ 1 ≤ d ∧ q_rpn cd' f n (d + 1))
    rw [hj (f + n) (by omega) (by omega)]
    have hj' : ∀ j, f ≤ j → j < f + n → cd' j = cd j := fun j a b => hj j a (by omega)
    rcases h with ⟨h1, h2, h3, h4⟩ | ⟨h1, h2, h3⟩ | ⟨h1, h2, h3⟩
    · exact Or.inl ⟨h1, h2, h3, ih _ hj' h4⟩
    · exact Or.inr (Or.inl ⟨h1, h2, ih _ hj' h3⟩)
    · exact Or.inr (Or.inr ⟨h1, h2, ih _ hj' h3⟩)
theorem q_RPN_congr {cd cd' : Nat → Int} {f c d : Int} (hj : ∀ j : Nat, f ≤ (j : Int) → (j : Int) < c → cd' j = cd j) (h : q_RPN cd f c d) : q_RPN cd' f c d := by
  obtain ⟨h1, h2, h3⟩ := h
  exact ⟨h1, h2, q_rpn_congr _ _ (fun j a b => hj j (by omega) (by omega)) h3⟩
theorem q_zc_congr {se se' : Nat → Int} : ∀ (n : Nat), (∀ j, j < n → se' j = se j) → q_zc se' n = q_zc se n := by
  intro n
  induction n with
  | zero => intro _; rfl
  | succ n ih =>
    intro hj
    show q_zc se' n + (if se' n = 0 then 1 else 0) = q_zc se n + (if se n = 0 then 1 else 0)
    rw [ih (fun j h => hj j (by omega)), hj n (by omega)]
section
variable {S : Nat → Int32} {X0 X X' : zH} {m : Nat} {v : Nat → Int} {w : qW}
theorem q_gkeep_ok {p k j : Nat} {z : zV} {i : qL} {g : qGh} (hw : q_wg S X0 m v w X) (hi : q_den w.1 v i (j : Int)) (hp : q_plc k j = p) (hk : k < 190) (hs : q_set X k j z X') (hm : ∃ mk, z_nth q_gfs g.1 = some mk ∧ Nat.testBit mk p = true) (h : q_gkeep w.2.1 w.2.2.1 p i g = true) {v' : Nat → Int} (hv : q_agr w.1 v v') (hg : q_gok X g.1 (g.2.map (q_ev v'))) : q_gok X' g.1 (g.2.map (q_ev v')) := by
  obtain ⟨a1, a2, _⟩ := hw v' hv
  have other : ∀ k' j', k' < 190 → ¬ (k' = k ∧ j' = j) → q_gi X' k' j' = q_gi X k' j' := fun k' j' h1 h2 => q_gi_of (hs.2.2.2 k' j' h1 h2)
  have hij : q_ev v' i = (j : Int) := hi v' hv
  obtain ⟨g, gs⟩ := g
  unfold q_gkeep at h
  have kk : ∀ {c b : Nat}, c < 190 → (∀ j, q_plc c j = b) → p ≠ b → c ≠ k := fun hc hb hn e => hn (by rw [← hp, ← e, hb])
  rcases q_if_iff.mp h with ⟨t, h⟩ | ⟨_, h⟩
  · obtain ⟨x, t2, e, h⟩ := q_lc_iff.mp h
    have t : g = 0 := q_beq_iff.mp t
    have e : gs = x :: t2 := e
    subst t; subst e
    have h1 := q_pr_ok a1 a2 h
    rw [q_ev_sub, hij] at h1
    cases t2 with
    | nil => exact hg.elim
    | cons y t3 =>
      cases t3 with
      | cons _ _ => exact hg.elim
      | nil =>
        have hg : q_pile (q_gi X 172) (q_gi X 173) (q_ev v' x).toNat (q_ev v' y) := hg
        show q_pile (q_gi X' 172) (q_gi X' 173) (q_ev v' x).toNat (q_ev v' y)
        exact q_pile_congr _ _ (fun a ha => ⟨other 172 a (by omega) (by omega), other 173 a (by omega) (by omega)⟩) hg
  · rcases q_if_iff.mp h with ⟨t, h⟩ | ⟨_, h⟩
    · obtain ⟨x, t2, e, h⟩ := q_lc_iff.mp h
      obtain ⟨y, t3, e3, h⟩ := q_lc_iff.mp h
      have t : g = 1 := q_beq_iff.mp t
      have e : gs = x :: t2 := e
      subst t; subst e; subst e3
      have h1 := q_pr_ok a1 a2 h
      rw [q_ev_sub, hij] at h1
      cases t3 with
      | nil => exact hg.elim
      | cons z3 t4 =>
        cases t4 with
        | cons _ _ => exact hg.elim
        | nil =>
          have hg : q_RPN (q_gi X 170) (q_ev v' x) (q_ev v' y) (q_ev v' z3) := hg
          show q_RPN (q_gi X' 170) (q_ev v' x) (q_ev v' y) (q_ev v' z3)
          exact q_RPN_congr (fun a b c => other 170 a (by omega) (by omega)) hg
    · rcases q_if_iff.mp h with ⟨t, h⟩ | ⟨_, h⟩
      · obtain ⟨x, t2, e, h⟩ := q_lc_iff.mp h
        have t : g = 3 := q_beq_iff.mp t
        have e : gs = x :: t2 := e
        subst t; subst e
        cases t2 with
        | cons _ _ => exact hg.elim
        | nil =>
          have hg : q_HV (q_gi X 170) (q_gi X 162) (q_gi X 163) (q_gi X 164) (q_ev v' x) := hg
          show q_HV (q_gi X' 170) (q_gi X' 162) (q_gi X' 163) (q_gi X' 164) (q_ev v' x)
          obtain ⟨b1, b2⟩ := hg
          have i560 : (Int.ofNat 560 : Int) = 560 := rfl
          rcases q_if_iff.mp h with ⟨t1, h⟩ | ⟨t1, h⟩
          · obtain ⟨h1, h2⟩ := q_and_iff.mp h
            have h1 := q_pr_ok a1 a2 h1
            have h2 := q_pr_ok a1 a2 h2
            rw [q_ev_pl, q_ev_add, q_ev_sc, hij, i560] at h1
            rw [q_ev_sub, q_ev_pl, q_ev_ng, q_ev_sc, hij, i560] at h2
            have i1 : (Int.negSucc 559 : Int) = -560 := rfl
            have i2 : (Int.ofNat 1119 : Int) = 1119 := rfl
            rw [i1] at h1
            rw [i2] at h2
            have tp : p = 207 := q_beq_iff.mp t1
            have n2 : 162 ≠ k := kk (by omega) q_pl162 (by omega)
            have n3 : 163 ≠ k := kk (by omega) q_pl163 (by omega)
            have n4 : 164 ≠ k := kk (by omega) q_pl164 (by omega)
            rw [show q_gi X' 162 = q_gi X 162 from funext fun a => other 162 a (by omega) (by omega), show q_gi X' 163 = q_gi X 163 from funext fun a => other 163 a (by omega) (by omega), show q_gi X' 164 = q_gi X 164 from funext fun a => other 164 a (by omega) (by omega)]
            refine ⟨b1, fun hv1 => ?_⟩
            obtain ⟨c1, c2, d, c3⟩ := b2 hv1
            refine ⟨c1, c2, d, q_RPN_congr (fun a y1 y2 => other 170 a (by omega) ?_) c3⟩
            rcases b1 with e0 | e0
            · rw [e0] at h1 h2 c1 c2 y1 y2; omega
            · rw [e0] at h1 h2 c1 c2 y1 y2; omega
          · have h1 := q_eq_ok a1 h
            rw [q_ev_add, q_ev_c, hij] at h1
            have i1 : (Int.ofNat 1 : Int) = 1 := rfl
            rw [i1] at h1
            have n1 : 170 ≠ k := kk (by omega) q_pl170 (z_nbeq t1)
            rw [show q_gi X' 170 = q_gi X 170 from funext fun a => other 170 a (by omega) (by omega)]
            have nj : (q_ev v' x).toNat ≠ j := by omega
            refine ⟨b1, fun hv1 => ?_⟩
            rw [other 164 _ (by omega) (by omega)] at hv1
            rw [other 162 _ (by omega) (by omega), other 163 _ (by omega) (by omega)]
            exact b2 hv1
      · rcases q_if_iff.mp h with ⟨t, h⟩ | ⟨_, h⟩
        · obtain ⟨x, t2, e, h⟩ := q_lc_iff.mp h
          have t : g = 6 := q_beq_iff.mp t
          have e : gs = x :: t2 := e
          subst t; subst e
          have h1 := q_pr_ok a1 a2 h
          rw [q_ev_sub, hij] at h1
          cases t2 with
          | cons _ _ => exact hg.elim
          | nil =>
            have hg : ∀ j : Int, 0 ≤ j → j < q_ev v' x → q_gi X 181 j.toNat = 0 := hg
            show ∀ j : Int, 0 ≤ j → j < q_ev v' x → q_gi X' 181 j.toNat = 0
            intro a b c
            rw [other 181 _ (by omega) (by omega)]
            exact hg a b c
        · rcases q_if_iff.mp h with ⟨t, h⟩ | ⟨_, h⟩
          · obtain ⟨x, t2, e, h⟩ := q_lc_iff.mp h
            obtain ⟨y, t3, e3, h⟩ := q_lc_iff.mp h
            have t : g = 8 := q_beq_iff.mp t
            have e : gs = x :: t2 := e
            subst t; subst e; subst e3
            have h1 := q_eq_ok a1 h
            rw [hij] at h1
            cases t3 with
            | cons _ _ => exact hg.elim
            | nil =>
              have hg : 0 ≤ q_ev v' y ∧ q_ev v' y < 36 ∧ 0 ≤ q_ev v' x ∧ (∀ j : Nat, j < 36 → (j : Int) ≠ q_ev v' y → q_gi X 181 j ≤ q_ev v' x) ∧ (q_zc (fun (j : Nat) => if (j : Int) = q_ev v' y then 1 else q_gi X 181 j) 36 : Int) = 35 - q_ev v' x := hg
              show 0 ≤ q_ev v' y ∧ q_ev v' y < 36 ∧ 0 ≤ q_ev v' x ∧ (∀ j : Nat, j < 36 → (j : Int) ≠ q_ev v' y → q_gi X' 181 j ≤ q_ev v' x) ∧ (q_zc (fun (j : Nat) => if (j : Int) = q_ev v' y then 1 else q_gi X' 181 j) 36 : Int) = 35 - q_ev v' x
              obtain ⟨c1, c2, c3, c4, c5⟩ := hg
              refine ⟨c1, c2, c3, fun a h2 h3 => ?_, ?_⟩
              · rw [other 181 a (by omega) (by omega)]
                exact c4 a h2 h3
              · rw [← c5]
                congr 1
                refine q_zc_congr 36 fun a ha => ?_
                show (if (a : Int) = q_ev v' y then 1 else q_gi X' 181 a) = (if (a : Int) = q_ev v' y then 1 else q_gi X 181 a)
                by_cases e : (a : Int) = q_ev v' y
                · rw [if_pos e, if_pos e]
                · rw [if_neg e, if_neg e, other 181 a (by omega) (by omega)]
          · rcases q_if_iff.mp h with ⟨t, h⟩ | ⟨_, h⟩
            · obtain ⟨tp, h⟩ := q_and_iff.mp h
              obtain ⟨x, t2, e, h⟩ := q_lc_iff.mp h
              have t : g = 11 := q_beq_iff.mp t
              have tp : p = 213 := q_beq_iff.mp tp
              have e : gs = x :: t2 := e
              subst t; subst e
              have h1 := q_pr_ok a1 a2 h
              rw [q_ev_sub, hij] at h1
              cases t2 with
              | cons _ _ => exact hg.elim
              | nil =>
                have hg : ∀ h : Int, 0 ≤ h → h < q_ev v' x → 0 ≤ q_gi X 176 h.toNat ∨ q_nob (q_gi X 156) (q_gi X 159) (q_gi X 144 39) h (q_gi X 148 (q_gi X 144 39).toNat) := hg
                show ∀ h : Int, 0 ≤ h → h < q_ev v' x → 0 ≤ q_gi X' 176 h.toNat ∨ q_nob (q_gi X' 156) (q_gi X' 159) (q_gi X' 144 39) h (q_gi X' 148 (q_gi X' 144 39).toNat)
                have n1 : 156 ≠ k := kk (by omega) q_pl156 (by omega)
                have n2 : 159 ≠ k := kk (by omega) q_pl159 (by omega)
                have n3 : 148 ≠ k := kk (by omega) q_pl148 (by omega)
                have n4 : ¬ (144 = k ∧ 39 = j) := fun e => by
                  have := q_pl144.1
                  rw [e.1, e.2, hp] at this
                  omega
                rw [show q_gi X' 156 = q_gi X 156 from funext fun a => other 156 a (by omega) (by omega), show q_gi X' 159 = q_gi X 159 from funext fun a => other 159 a (by omega) (by omega), show q_gi X' 148 = q_gi X 148 from funext fun a => other 148 a (by omega) (by omega), other 144 39 (by omega) n4]
                intro a b c
                rw [other 176 _ (by omega) (by omega)]
                exact hg a b c
            · cases h
end
