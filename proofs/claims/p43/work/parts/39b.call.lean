/-! the checker is sound: calls -/
def q_entry (S : Nat → Int32) (C : qCon) (v0 : Nat → Int) (cas : List zV) (X : zH) : Prop := q_inv S X ∧ ∀ v', q_agr C.2.1 v0 v' → q_sts v' C.2.2.2.1 cas ∧ q_pok S X v' C.2.2.1
def q_rok (v : Nat → Int) (a : Option qV) (r : Option zV) : Prop := match a with
  | none => r = none
  | some a => ∃ z, r = some z ∧ q_rep v a z
def q_lfok (S : Nat → Int32) (m0 mm : Nat) (X : zH) (v0 : Nat → Int) (lf : qLf) (r : zR) : Prop := ∃ v', q_agr m0 v0 v' ∧ r.1 = [] ∧ q_inv S r.2.2 ∧ q_frm X mm r.2.2 ∧ q_pok S r.2.2 v' lf.1 ∧ q_rok v' lf.2 r.2.1
def q_LC (S : Nat → Int32) (C : qCon) (X : zH) (v0 : Nat → Int) : zR → Prop := fun r => ∃ lf ∈ C.2.2.2.2.2.2.1, q_lfok S C.2.1 C.2.2.2.2.1 X v0 lf r
theorem q_isv_ok {j : Nat} {l : qL} (h : q_isv j l = true) (v : Nat → Int) : q_ev v l = v j := by
  obtain ⟨h1, h2⟩ := q_and_iff.mp h
  obtain ⟨q, t, e, h3⟩ := q_lc_iff.mp h2
  simp only [q_and_iff] at h3
  obtain ⟨h4, h5, h6⟩ := h3
  have e1 := q_is0_ok h1
  have e2 := q_nil_iff.mp h4
  have e3 := q_beq_iff.mp h5
  have e4 := q_is0_ok h6
  have e5 : Int.sub q.2 (Int.ofNat 1) = q.2 - 1 := rfl
  rw [e5] at e4
  have e6 : q.2 = 1 := by omega
  show l.1 + q_et v l.2 = v j
  rw [e1, e, e2]
  show (0 : Int) + (q.2 * v q.1 + 0) = v j
  rw [e6, e3]
  omega
theorem q_srel_snoc {σ : List qL} {x : qL} {v v' : Nat → Int} (h : q_srel σ v v') (hx : v' σ.length = q_ev v x) : q_srel (q_snoc σ x) v v' := fun j y hy => by
  have e : q_snoc σ x = σ ++ [x] := q_cat2_eq _ _
  rw [e] at hy
  by_cases hj : j < σ.length
  · rw [List.getElem?_append_left hj] at hy
    exact h j y hy
  · rw [List.getElem?_append_right (by omega)] at hy
    by_cases hj2 : j = σ.length
    · rw [hj2, Nat.sub_self] at hy
      have hy : some x = some y := hy
      cases hy
      rw [hj2]; exact hx
    · have : j - σ.length = (j - σ.length - 1) + 1 := by omega
      rw [this] at hy
      cases hy
section
variable {S : Nat → Int32} {X' : zH}
theorem q_lrn_ok {mm j : Nat} {σ : List qL} {b : qB} {fs : List qFa} {k1 : qL → Bool} {k0 : Bool} (lf : List qFa) (h : q_lrn mm j σ b fs lf k1 k0 = true) : k0 = true ∨ ∃ f ∈ lf, (f.2.2.2.1 = 1 ∨ f.2.2.2.1 = 2) ∧ q_isv j f.2.2.2.2.2.1 = true ∧ ∃ c i a, (∀ v v', q_srel σ v v' → q_ev v c = q_ev v' f.2.1 ∧ q_ev v i = q_ev v' f.2.2.1) ∧ q_find b f.1 c i fs = some a ∧ a.1 = f.2.2.2.1 ∧ k1 a.2.2.1 = true := by
  induction lf with
  | nil => exact Or.inl h
  | cons f t ih =>
    have up : q_lrn mm j σ b fs t k1 k0 = true → k0 = true ∨ ∃ f' ∈ f :: t, (f'.2.2.2.1 = 1 ∨ f'.2.2.2.1 = 2) ∧ q_isv j f'.2.2.2.2.2.1 = true ∧ ∃ c i a, (∀ v v', q_srel σ v v' → q_ev v c = q_ev v' f'.2.1 ∧ q_ev v i = q_ev v' f'.2.2.1) ∧ q_find b f'.1 c i fs = some a ∧ a.1 = f'.2.2.2.1 ∧ k1 a.2.2.1 = true := fun h => by
      rcases ih h with h | ⟨f', h1, h2⟩
      · exact Or.inl h
      · exact Or.inr ⟨f', List.mem_cons_of_mem _ h1, h2⟩
    have h : z_if (q_and (q_not (Nat.testBit mm f.1)) (q_and (q_or (Nat.beq f.2.2.2.1 1) (Nat.beq f.2.2.2.1 2)) (q_isv j f.2.2.2.2.2.1)))
      (q_sb σ f.2.1 fun c => q_sb σ f.2.2.1 fun i => Option.rec (motive := fun _ => Bool) (q_lrn mm j σ b fs t k1 k0) (fun a => z_if (Nat.beq a.1 f.2.2.2.1) (q_fl a.2.2.1 k1) (q_lrn mm j σ b fs t k1 k0)) (q_find b f.1 c i fs)) (q_lrn mm j σ b fs t k1 k0) = true := h
    rcases q_if_iff.mp h with ⟨h0, h⟩ | ⟨_, h⟩
    · simp only [q_and_iff, q_or_iff] at h0
      obtain ⟨_, h1, h2⟩ := h0
      obtain ⟨c, h, hc⟩ := q_sbl_ok h
      obtain ⟨i, h, hi⟩ := q_sbl_ok h
      cases e : q_find b f.1 c i fs with
      | none => rw [e] at h; exact up h
      | some a =>
        rw [e] at h
        rcases q_if_iff.mp (show z_if (Nat.beq a.1 f.2.2.2.1) (q_fl a.2.2.1 k1) (q_lrn mm j σ b fs t k1 k0) = true from h) with ⟨h3, h4⟩ | ⟨_, h4⟩
        · rw [q_fl_eq] at h4
          exact Or.inr ⟨f, List.mem_cons_self .., h1.elim (fun h => Or.inl (q_beq_iff.mp h)) (fun h => Or.inr (q_beq_iff.mp h)), h2, c, i, a, fun v v' hs => ⟨hc v v' hs, hi v v' hs⟩, e, q_beq_iff.mp h3, h4⟩
        · exact up h4
    · exact up h
theorem q_lv_ok {mm n0 : Nat} {v v' : Nat → Int} {σ0 : List qL} {fs lf : List qFa} {k : Nat → qB → List qL → List qL → Bool} (hp : ∀ u', q_agr n0 v u' → q_srel σ0 u' v' ∧ ∀ f ∈ fs, q_fok S X' u' f) (hlf : ∀ f ∈ lf, q_fok S X' v' f) (bs : qB) : ∀ {n : Nat} {b : qB} {σ ex : List qL} {u : Nat → Int}, q_lv mm σ0 fs lf k bs n b σ ex = true → q_bok v' bs → q_ext n0 v n u → (∀ u', q_agr n u u' → q_bok u' b ∧ q_srel σ u' v' ∧ ∀ l ∈ ex, 0 ≤ q_ev u' l) →
    ∃ n' b' σ' ex' u', k n' b' σ' ex' = true ∧ q_ext n0 v n' u' ∧ ∀ u'', q_agr n' u' u'' → q_bok u'' b' ∧ q_srel σ' u'' v' ∧ ∀ l ∈ ex', 0 ≤ q_ev u'' l := by
  induction bs with
  | nil => intro n b σ ex u h _ he hu; exact ⟨n, b, σ, ex, u, h, he, hu⟩
  | cons q t ih =>
    intro n b σ ex u h hb he hu
    have h : q_and (Nat.beq q.1 (List.length σ)) (q_fi q.2.1 fun lo => q_fi q.2.2 fun hi =>
      q_lrn mm q.1 σ0 b fs lf (fun l => q_fls (q_snoc σ l) fun σ => q_lv mm σ0 fs lf k t n b σ (q_pl l (Int.neg lo) :: q_pl (q_ng l) hi :: ex))
        (z_if (q_is0 (Int.sub hi lo)) (q_fls (q_snoc σ (q_c lo)) fun σ => q_lv mm σ0 fs lf k t n b σ ex) (q_fn (Nat.succ n) fun n1 => q_fls (q_snoc σ (q_v n)) fun σ => q_lv mm σ0 fs lf k t n1 ((n, lo, hi) :: b) σ ex))) = true := h
    obtain ⟨h0, h⟩ := q_and_iff.mp h
    rw [q_fi_eq, q_fi_eq] at h
    have hlen : q.1 = σ.length := q_beq_iff.mp h0
    have hbq := hb q (List.mem_cons_self ..)
    have hbt : q_bok v' t := fun x hx => hb x (List.mem_cons_of_mem _ hx)
    rcases q_lrn_ok lf h with h | ⟨f, hf, htag, hisv, c, i, a, hci, hfind, hat, h⟩
    · rcases q_if_iff.mp h with ⟨h1, h⟩ | ⟨_, h⟩
      · have h := q_fls_ok _ h
        have e1 := q_is0_ok h1
        have e2 : Int.sub q.2.2 q.2.1 = q.2.2 - q.2.1 := rfl
        rw [e2] at e1
        refine ih h hbt he fun u' hu' => ?_
        obtain ⟨a1, a2, a3⟩ := hu u' hu'
        refine ⟨a1, q_srel_snoc a2 ?_, a3⟩
        rw [q_ev_c, ← hlen]
        omega
      · rw [q_fn_eq] at h
        have h := q_fls_ok _ h
        have e2 : q_ext n0 v (Nat.succ n) (q_upd u n (v' q.1)) := he.trans ⟨Nat.le_succ _, q_upd_agr u n _⟩
        refine ih h hbt e2 fun u' hu' => ?_
        have hu1 : q_agr n u u' := q_agr.trans (Nat.le_succ _) (q_upd_agr u n _) hu'
        have hu2 : u' n = v' q.1 := by rw [hu' n (Nat.lt_succ_self _), q_upd_at]
        obtain ⟨a1, a2, a3⟩ := hu u' hu1
        refine ⟨fun x hx => ?_, q_srel_snoc a2 ?_, a3⟩
        · rcases List.mem_cons.mp hx with e | e
          · rw [e]; show q.2.1 ≤ u' n ∧ u' n ≤ q.2.2; rw [hu2]; exact hbq
          · exact a1 x e
        · rw [q_ev_v, hu2, hlen]
    · have h := q_fls_ok _ h
      have key : ∀ u', q_agr n u u' → v' q.1 = q_ev u' a.2.2.1 := fun u' hu' => by
        obtain ⟨a1, a2, a3⟩ := hu u' hu'
        obtain ⟨p1, p2⟩ := hp u' (q_agr.trans he.1 he.2 hu')
        obtain ⟨f0, g0, g1, g2, g3, g4⟩ := q_find_mem hfind
        obtain ⟨k0, j0, r1, r2, r3, r4, r5⟩ := p2 f0 g0
        obtain ⟨k1, j1, s1, s2, s3, s4, s5⟩ := hlf f hf
        obtain ⟨c1, c2⟩ := hci u' v' p1
        have ek : k0 = k1 := by
          have := q_eq_ok a1 g2
          omega
        have ej : j0 = j1 := by
          have := q_eq_ok a1 g3
          omega
        subst ek; subst ej
        rw [g4] at r4
        have hv := q_isv_ok hisv v'
        rcases htag with ht | ht
        · obtain ⟨x, x1, x2⟩ := r4.1 (by rw [hat]; exact ht)
          obtain ⟨y, y1, y2⟩ := s4.1 ht
          rw [x1] at y1
          have e : x = y := Value.int.inj (Sum.inl.inj y1)
          rw [← hv, ← y2, ← e]; exact x2
        · obtain ⟨x, x1, x2⟩ := r4.2.1 (by rw [hat]; exact ht)
          obtain ⟨y, y1, y2⟩ := s4.2.1 ht
          rw [x1] at y1
          have e : x = y := Value.long.inj (Sum.inl.inj y1)
          rw [← hv, ← y2, ← e]; exact x2
      refine ih h hbt he fun u' hu' => ?_
      obtain ⟨a1, a2, a3⟩ := hu u' hu'
      refine ⟨a1, q_srel_snoc a2 (by rw [← hlen]; exact key u' hu'), fun l hl => ?_⟩
      have ek := key u' hu'
      have en : Int.neg q.2.1 = -q.2.1 := rfl
      rcases List.mem_cons.mp hl with e | hl
      · rw [e, q_ev_pl, ← ek, en]; omega
      · rcases List.mem_cons.mp hl with e | hl
        · rw [e, q_ev_pl, q_ev_ng, ← ek]; omega
        · exact a3 l hl
theorem q_adf_ok {σ : List qL} {b : qB} {fs0 : List qFa} (lf : List qFa) : ∀ {acc : List qFa} {k : List qFa → Bool}, q_adf σ b fs0 lf acc k = true → ∃ fs', k fs' = true ∧ ∀ u v', q_srel σ u v' → (∀ f ∈ lf, q_fok S X' v' f) → (∀ f ∈ acc, q_fok S X' u f) → ∀ f ∈ fs', q_fok S X' u f := by
  induction lf with
  | nil => intro acc k h; exact ⟨acc, h, fun _ _ _ _ h => h⟩
  | cons f t ih =>
    intro acc k h
    obtain ⟨c, h, hc⟩ := q_sbl_ok (show q_sb σ f.2.1 (fun c => q_sb σ f.2.2.1 fun i => Option.rec (motive := fun _ => Bool) (q_sbv σ f.2.2.2 fun a => q_adf σ b fs0 t ((f.1, c, i, a) :: acc) k) (fun _ => q_adf σ b fs0 t acc k) (q_find b f.1 c i fs0)) = true from h)
    obtain ⟨i, h, hi⟩ := q_sbl_ok h
    cases e : q_find b f.1 c i fs0 with
    | some a =>
      rw [e] at h
      obtain ⟨fs', k1, k2⟩ := ih (show q_adf σ b fs0 t acc k = true from h)
      exact ⟨fs', k1, fun u v' hs h1 h2 => k2 u v' hs (fun x hx => h1 x (List.mem_cons_of_mem _ hx)) h2⟩
    | none =>
      rw [e] at h
      obtain ⟨a, h, ha⟩ := q_sbv_ok (show q_sbv σ f.2.2.2 (fun a => q_adf σ b fs0 t ((f.1, c, i, a) :: acc) k) = true from h)
      obtain ⟨fs', k1, k2⟩ := ih h
      refine ⟨fs', k1, fun u v' hs h1 h2 => k2 u v' hs (fun x hx => h1 x (List.mem_cons_of_mem _ hx)) fun x hx => ?_⟩
      rcases List.mem_cons.mp hx with e | e
      · rw [e]
        obtain ⟨k0, j0, r1, r2, r3, r4, r5⟩ := h1 f (List.mem_cons_self ..)
        refine ⟨k0, j0, ?_, ?_, r3, (ha u v' hs _).mp r4, r5⟩
        · show (k0 : Int) = q_ev u c
          rw [hc u v' hs]; exact r1
        · show (j0 : Int) = q_ev u i
          rw [hi u v' hs]; exact r2
      · exact h2 x e
theorem q_adg_ok {σ : List qL} (lg : List qGh) : ∀ {acc : List qGh} {k : List qGh → Bool}, q_adg σ lg acc k = true → ∃ gs', k gs' = true ∧ ∀ u v', q_srel σ u v' → (∀ g ∈ lg, q_gok X' g.1 (g.2.map (q_ev v'))) → (∀ g ∈ acc, q_gok X' g.1 (g.2.map (q_ev u))) → ∀ g ∈ gs', q_gok X' g.1 (g.2.map (q_ev u)) := by
  induction lg with
  | nil => intro acc k h; exact ⟨acc, h, fun _ _ _ _ h => h⟩
  | cons g t ih =>
    intro acc k h
    obtain ⟨as, h, ha⟩ := q_sbs_ok _ (show q_sbs σ g.2 (fun as => q_adg σ t ((g.1, as) :: acc) k) = true from h)
    obtain ⟨gs', k1, k2⟩ := ih h
    refine ⟨gs', k1, fun u v' hs h1 h2 => k2 u v' hs (fun x hx => h1 x (List.mem_cons_of_mem _ hx)) fun x hx => ?_⟩
    rcases List.mem_cons.mp hx with e | e
    · rw [e]
      show q_gok X' g.1 (as.map (q_ev u))
      rw [ha u v' hs]
      exact h1 g (List.mem_cons_self ..)
    · exact h2 x e
end
section
variable {S : Nat → Int32} {X0 X : zH} {m : Nat} {v : Nat → Int} {w : qW}
theorem q_leaf_ok {mm : Nat} {σ : List qL} {k : qW → Option qV → Bool} {lf : qLf} {r : zR} {v0 : Nat → Int} (h : q_leaf mm σ w k lf = true) (hw : q_wg S X0 m v w X) (hsub : ∀ p, Nat.testBit mm p = true → Nat.testBit m p = true) (hσ : ∀ j x, σ[j]? = some x → q_den w.1 v x (v0 j)) (hr : q_lfok S σ.length mm X v0 lf r) :
    r.1 = [] ∧ ∃ w' a v1, k w' a = true ∧ q_ext w.1 v w'.1 v1 ∧ q_wg S X0 m v1 w' r.2.2 ∧ ∀ v2, q_agr w'.1 v1 v2 → q_rok v2 a r.2.1 := by
  obtain ⟨v', hv0, hr1, hinv, hfr, ⟨pb, pc, pf, pg⟩, hres⟩ := hr
  refine ⟨hr1, ?_⟩
  unfold q_leaf at h
  rw [q_cw_eq] at h
  obtain ⟨fs', h, hfs⟩ := q_mflt_ok _ h
  obtain ⟨gs', h, hgs⟩ := q_gflt_ok _ h
  have hch := q_chg hw hfr hinv hsub hfs hgs
  have hs0 : ∀ u', q_agr w.1 v u' → q_srel σ u' v' := fun u' hu j x hx => by
    rw [hσ j x hx u' hu]
    exact hv0 j (List.getElem?_eq_some_iff.mp hx).1
  obtain ⟨n', b', σ', ex', u, k1, k2, k3⟩ := q_lv_ok (S := S) (X' := r.2.2) (n0 := w.1) (v := v) (v' := v') (fun u' hu => ⟨hs0 u' hu, (hch u' hu).2.2.2.2.1⟩) pf _ h pb (q_ext.refl _ _) (fun u' hu => ⟨(hch u' hu).1, hs0 u' hu, fun l hl => by cases hl⟩)
  obtain ⟨cc, k4, hcc⟩ := q_sbs_ok _ k1
  have hex : ∀ u', q_agr n' u u' → ∀ l ∈ z_cat2 ex' cc, 0 ≤ q_ev u' l := fun u' hu l hl => by
    rw [q_cat2_eq] at hl
    obtain ⟨a1, a2, a3⟩ := k3 u' hu
    rcases List.mem_append.mp hl with e | e
    · exact a3 l e
    · have := hcc u' v' a2
      have hm : q_ev u' l ∈ cc.map (q_ev u') := List.mem_map_of_mem e
      rw [this] at hm
      obtain ⟨c, hc1, hc2⟩ := List.mem_map.mp hm
      rw [← hc2]
      exact pc c hc1
  have hcs : ∀ u', q_agr n' u u' → q_cok u' w.2.2.1 := fun u' hu => (hch u' (q_agr.trans k2.1 k2.2 hu)).2.1
  obtain ⟨b2, c2, k5, k6⟩ := q_assk_ok _ (k3 u (q_agr.refl _ _)).1 (hcs u (q_agr.refl _ _)) (hex u (q_agr.refl _ _)) k4
  obtain ⟨fs2, k7, k8⟩ := q_adf_ok (S := S) (X' := r.2.2) _ k5
  obtain ⟨gs2, k9, k10⟩ := q_adg_ok (X' := r.2.2) _ k7
  have hwg : q_wg S X0 m u (n', b2, c2, fs2, gs2) r.2.2 := fun u' hu => by
    have hu0 := q_agr.trans k2.1 k2.2 hu
    obtain ⟨a1, a2, a3⟩ := k3 u' hu
    obtain ⟨e1, e2⟩ := k6 u' (hex u' hu) a1 (hcs u' hu)
    obtain ⟨c1, c3, c4, c5, c6, c7⟩ := hch u' hu0
    exact ⟨e1, e2, c4, c5, k8 u' v' a2 pf c6, k10 u' v' a2 pg c7⟩
  cases e : lf.2 with
  | none =>
    rw [e] at k9 hres
    exact ⟨_, none, u, k9, k2, hwg, fun _ _ => hres⟩
  | some a =>
    rw [e] at k9 hres
    obtain ⟨a', k11, k12⟩ := q_sbv_ok (show q_sbv σ' a (fun r => k (n', b2, c2, fs2, gs2) (some r)) = true from k9)
    refine ⟨_, some a', u, k11, k2, hwg, fun u' hu => ?_⟩
    obtain ⟨z, z1, z2⟩ := hres
    exact ⟨z, z1, (k12 u' v' (k3 u' hu).2.1 z).mp z2⟩
theorem q_mvl_ok {σ : List qL} {b : qB} {cs : List qL} {v' : Nat → Int} (hb : q_bok v b) (hc : q_cok v cs) (hs : q_srel σ v v') (ps : List qV) : ∀ {as : List qV} {cas : List zV}, q_mvl σ b cs ps as = true → q_sts v as cas → q_sts v' ps cas := by
  induction ps with
  | nil =>
    intro as cas h ha
    rw [q_nil_iff.mp (show z_nil as = true from h)] at ha
    exact ha
  | cons p t ih =>
    intro as cas h ha
    obtain ⟨a, s, e, h⟩ := q_lc_iff.mp (show q_lc as (fun a as => q_and (q_sbv σ p fun x => q_mv b cs x a) (q_mvl σ b cs t as)) = true from h)
    obtain ⟨h1, h2⟩ := q_and_iff.mp h
    subst e
    obtain ⟨z, s2, e2, g1, g2⟩ := ha
    obtain ⟨x, h3, h4⟩ := q_sbv_ok h1
    exact ⟨z, s2, e2, (h4 v v' hs z).mpr (q_mv_ok hb hc h3 g1), ih h2 g2⟩
theorem q_land_sub {a b : Nat} (h : Nat.beq (Nat.land a b) a = true) : ∀ p, Nat.testBit a p = true → Nat.testBit b p = true := fun p hp => by
  have h1 : a &&& b = a := q_beq_iff.mp h
  rw [← h1, Nat.testBit_and] at hp
  exact (Bool.and_eq_true_iff.mp hp).2
theorem q_call1_ok {dl : qL} {D : Int} {as : List qV} {cas : List zV} {k : qW → Option qV → Bool} {C : qCon} (h : q_call1 m dl as k w C = true) (hw : q_wg S X0 m v w X) (hd : q_den w.1 v dl D) (ha : q_stg w.1 v as cas) :
    ∃ v0, q_entry S C v0 cas X ∧ 1 ≤ q_ev v0 C.2.2.2.2.2.1 ∧ q_ev v0 C.2.2.2.2.2.1 + 1 ≤ D ∧ ∀ r, q_LC S C X v0 r → r.1 = [] ∧ ∃ w' a v1, k w' a = true ∧ q_ext w.1 v w'.1 v1 ∧ q_wg S X0 m v1 w' r.2.2 ∧ ∀ v2, q_agr w'.1 v1 v2 → q_rok v2 a r.2.1 := by
  unfold q_call1 at h
  obtain ⟨w1, σ, u, k1, k2, k3⟩ := q_sg_ok _ h hw
  rw [List.nil_append] at k1
  rw [q_cw_eq] at k1
  simp only [q_and_iff] at k1
  obtain ⟨c1, c2, c3, c4, c5, c6, c7⟩ := k1
  have hlen := q_beq_iff.mp c6
  have hsc := q_all_ok c5
  let v0 : Nat → Int := fun j => match σ[j]? with
    | some x => q_ev u x
    | none => 0
  have hσ : ∀ j x, σ[j]? = some x → q_den w1.1 u x (v0 j) := fun j x hx => by
    have e : v0 j = q_ev u x := by show (match σ[j]? with | some x => q_ev u x | none => 0) = _; rw [hx]
    rw [e]
    exact q_sco_den (hsc x (List.mem_of_getElem? hx)) u
  have hs : q_srel σ u v0 := fun j x hx => ((hσ j x hx).at).symm
  have hwok := k3 u (q_agr.refl _ _)
  obtain ⟨dd, d1, d2⟩ := q_sbl_ok c3
  obtain ⟨d3, d4⟩ := q_and_iff.mp d1
  have d3 := q_pr2_ok hwok.1 hwok.2.1 d3
  have d4 := q_pr2_ok hwok.1 hwok.2.1 d4
  have im : (Int.negSucc 0 : Int) = -1 := rfl
  rw [q_ev_pl, d2 u v0 hs, im] at d3
  rw [q_ev_pl, q_ev_sub, d2 u v0 hs, (hd.ext k2).at, im] at d4
  have hs' : ∀ v', q_agr C.2.1 v0 v' → q_srel σ u v' := fun v' hv j x hx => by
    have hj := (List.getElem?_eq_some_iff.mp hx).1
    rw [hv j (by omega)]
    exact hs j x hx
  refine ⟨v0, ⟨k3.inv, fun v' hv => ⟨q_mvl_ok hwok.1 hwok.2.1 (hs' v' hv) _ c1 ((ha.ext k2) u (q_agr.refl _ _)), q_pm_ok c2 hwok (hs' v' hv)⟩⟩, by omega, by omega, fun r hr => ?_⟩
  obtain ⟨lf, hlf, hr⟩ := hr
  rw [← hlen] at hr
  obtain ⟨e1, w2, a, u2, m1, m2, m3, m4⟩ := q_leaf_ok (q_all_ok c7 lf hlf) k3 (q_land_sub c4) hσ hr
  exact ⟨e1, w2, a, u2, m1, k2.trans m2, m3, m4⟩
end
