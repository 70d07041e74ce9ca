/-! the checker is sound: what its words stand for -/
theorem q_cw_eq (w : qW) (f : Nat → qB → List qL → List qFa → List qGh → Bool) : q_cw w f = f w.1 w.2.1 w.2.2.1 w.2.2.2.1 w.2.2.2.2 := rfl
theorem q_ca_eq (A : qA) (f : Nat → List (Nat × qV) → List qV → qW → Bool) : q_ca A f = f A.1 A.2.1 A.2.2.1 A.2.2.2 := rfl
theorem q_fv_eq (a : qV) (k : qV → Bool) : q_fv a k = k a := by
  show q_fn a.1 (fun t => q_fn a.2.1 fun r => q_fl a.2.2.1 fun l => q_fl a.2.2.2 fun m => k (t, r, l, m)) = k a
  rw [q_fn_eq, q_fn_eq, q_fl_eq, q_fl_eq]
theorem q_and_iff {a b : Bool} : q_and a b = true ↔ a = true ∧ b = true := by cases a <;> cases b <;> decide
theorem q_or_iff {a b : Bool} : q_or a b = true ↔ a = true ∨ b = true := by cases a <;> cases b <;> decide
theorem q_not_iff {a : Bool} : q_not a = true ↔ a = false := by cases a <;> decide
theorem q_if_iff {c x y : Bool} : z_if c x y = true ↔ (c = true ∧ x = true) ∨ (c = false ∧ y = true) := by cases c <;> cases x <;> cases y <;> decide
theorem q_ob_iff {α : Type} {o : Option α} {f : α → Bool} : q_ob o f = true ↔ ∃ a, o = some a ∧ f a = true := by
  cases o with
  | none => exact ⟨fun h => (by cases h), fun ⟨a, h, _⟩ => (by cases h)⟩
  | some a => exact ⟨fun h => ⟨a, rfl, h⟩, fun ⟨b, h, h2⟩ => (by cases h; exact h2)⟩
theorem q_lc_iff {α : Type} {l : List α} {f : α → List α → Bool} : q_lc l f = true ↔ ∃ a t, l = a :: t ∧ f a t = true := by
  cases l with
  | nil => exact ⟨fun h => (by cases h), fun ⟨a, t, h, _⟩ => (by cases h)⟩
  | cons a t => exact ⟨fun h => ⟨a, t, rfl, h⟩, fun ⟨b, s, h, h2⟩ => (by cases h; exact h2)⟩
theorem q_nil_iff {α : Type} {l : List α} : z_nil l = true ↔ l = [] := by
  cases l with
  | nil => exact ⟨fun _ => rfl, fun _ => rfl⟩
  | cons a t => exact ⟨fun h => (by cases h), fun h => (by cases h)⟩
theorem q_beq_iff {a b : Nat} : Nat.beq a b = true ↔ a = b := ⟨Nat.eq_of_beq_eq_true, fun h => by rw [h]; exact Nat.beq_refl b⟩
theorem q_cat2_eq {α : Type} (a b : List α) : z_cat2 a b = a ++ b := by
  induction a with
  | nil => rfl
  | cons x t ih => show x :: z_cat2 t b = x :: (t ++ b); rw [ih]
theorem q_all_iff {α : Type} {f : α → Bool} {l : List α} : q_all f l = true ↔ ∀ a ∈ l, f a = true := by
  refine ⟨q_all_ok, fun h => ?_⟩
  induction l with
  | nil => rfl
  | cons a t ih =>
    show z_if (f a) (q_all f t) false = true
    rw [h a (List.mem_cons_self ..)]
    exact ih fun x hx => h x (List.mem_cons_of_mem _ hx)
/-! vars: what is said below n -/
theorem q_agr.refl (n : Nat) (v : Nat → Int) : q_agr n v v := fun _ _ => rfl
theorem q_agr.trans {n n' : Nat} {v v1 v2 : Nat → Int} (h : n ≤ n') (h1 : q_agr n v v1) (h2 : q_agr n' v1 v2) : q_agr n v v2 := fun i hi => (h2 i (Nat.lt_of_lt_of_le hi h)).trans (h1 i hi)
theorem q_agr.le {n n' : Nat} {v v1 : Nat → Int} (h : n ≤ n') (h1 : q_agr n' v v1) : q_agr n v v1 := fun i hi => h1 i (Nat.lt_of_lt_of_le hi h)
def q_ext (n : Nat) (v : Nat → Int) (n' : Nat) (v1 : Nat → Int) : Prop := n ≤ n' ∧ q_agr n v v1
theorem q_ext.refl (n : Nat) (v : Nat → Int) : q_ext n v n v := ⟨Nat.le_refl _, q_agr.refl _ _⟩
theorem q_ext.trans {n n1 n2 : Nat} {v v1 v2 : Nat → Int} (h1 : q_ext n v n1 v1) (h2 : q_ext n1 v1 n2 v2) : q_ext n v n2 v2 := ⟨Nat.le_trans h1.1 h2.1, q_agr.trans h1.1 h1.2 h2.2⟩
/-- a form that stands for one number -/
def q_den (n : Nat) (v : Nat → Int) (l : qL) (x : Int) : Prop := ∀ v', q_agr n v v' → q_ev v' l = x
def q_rg (n : Nat) (v : Nat → Int) (a : qV) (w : zV) : Prop := ∀ v', q_agr n v v' → q_rep v' a w
def q_stg (n : Nat) (v : Nat → Int) (st : List qV) (cs : List zV) : Prop := ∀ v', q_agr n v v' → q_sts v' st cs
def q_lg (n : Nat) (v : Nat → Int) (ls : List (Nat × qV)) (cs : zL) : Prop := ∀ v', q_agr n v v' → q_lok v' ls cs
def q_wg (S : Nat → Int32) (X0 : zH) (m : Nat) (v : Nat → Int) (w : qW) (X : zH) : Prop := ∀ v', q_agr w.1 v v' → q_wok S X0 m v' w X
section
variable {n n' : Nat} {v v1 : Nat → Int}
theorem q_den.ext (e : q_ext n v n' v1) {l : qL} {x : Int} (h : q_den n v l x) : q_den n' v1 l x := fun v' hv => h v' (q_agr.trans e.1 e.2 hv)
theorem q_rg.ext (e : q_ext n v n' v1) {a : qV} {w : zV} (h : q_rg n v a w) : q_rg n' v1 a w := fun v' hv => h v' (q_agr.trans e.1 e.2 hv)
theorem q_stg.ext (e : q_ext n v n' v1) {st : List qV} {cs : List zV} (h : q_stg n v st cs) : q_stg n' v1 st cs := fun v' hv => h v' (q_agr.trans e.1 e.2 hv)
theorem q_lg.ext (e : q_ext n v n' v1) {ls : List (Nat × qV)} {cs : zL} (h : q_lg n v ls cs) : q_lg n' v1 ls cs := fun v' hv => h v' (q_agr.trans e.1 e.2 hv)
theorem q_den.at {l : qL} {x : Int} (h : q_den n v l x) : q_ev v l = x := h v (q_agr.refl _ _)
theorem q_den.c (k : Int) : q_den n v (k, []) k := fun v' _ => by show k + 0 = k; omega
theorem q_den.c' (k : Int) : q_den n v (q_c k) k := q_den.c k
theorem q_den.add {l m : qL} {x y : Int} (h : q_den n v l x) (h2 : q_den n v m y) : q_den n v (q_add l m) (x + y) := fun v' hv => by rw [q_ev_add, h v' hv, h2 v' hv]
theorem q_den.sub {l m : qL} {x y : Int} (h : q_den n v l x) (h2 : q_den n v m y) : q_den n v (q_sub l m) (x - y) := fun v' hv => by rw [q_ev_sub, h v' hv, h2 v' hv]
theorem q_den.sc {l : qL} {x : Int} (k : Int) (h : q_den n v l x) : q_den n v (q_sc k l) (k * x) := fun v' hv => by rw [q_ev_sc, h v' hv]
theorem q_den.pl {l : qL} {x : Int} (k : Int) (h : q_den n v l x) : q_den n v (q_pl l k) (x + k) := fun v' hv => by rw [q_ev_pl, h v' hv]
theorem q_den.ng {l : qL} {x : Int} (h : q_den n v l x) : q_den n v (q_ng l) (-x) := fun v' hv => by rw [q_ev_ng, h v' hv]
/-! values by kind -/
theorem q_rg.i {a : qV} {w : zV} (h : q_rg n v a w) (ht : q_tI a = true) : ∃ x : Int32, w = .inl (.int x) ∧ q_den n v a.2.2.1 x.toInt := by
  rcases q_if_iff.mp (show z_if (Nat.beq a.1 1) true (Nat.beq a.1 4) = true from ht) with ⟨h1, _⟩ | ⟨_, h1⟩
  · obtain ⟨x, hw, _⟩ := (h v (q_agr.refl _ _)).1 (q_beq_iff.mp h1)
    refine ⟨x, hw, fun v' hv => ?_⟩
    obtain ⟨y, hy, e⟩ := (h v' hv).1 (q_beq_iff.mp h1)
    rw [hw] at hy; cases hy; exact e.symm
  · obtain ⟨x, hw, _⟩ := (h v (q_agr.refl _ _)).2.2.2.1 (q_beq_iff.mp h1)
    refine ⟨x, hw, fun v' hv => ?_⟩
    obtain ⟨y, hy, e, _⟩ := (h v' hv).2.2.2.1 (q_beq_iff.mp h1)
    rw [hw] at hy; cases hy; exact e.symm
theorem q_rg.l {a : qV} {w : zV} (h : q_rg n v a w) (ht : Nat.beq a.1 2 = true) : ∃ x : Int64, w = .inl (.long x) ∧ q_den n v a.2.2.1 x.toInt := by
  obtain ⟨x, hw, _⟩ := (h v (q_agr.refl _ _)).2.1 (q_beq_iff.mp ht)
  refine ⟨x, hw, fun v' hv => ?_⟩
  obtain ⟨y, hy, e⟩ := (h v' hv).2.1 (q_beq_iff.mp ht)
  rw [hw] at hy; cases hy; exact e.symm
theorem q_rg.r {a : qV} {w : zV} (h : q_rg n v a w) (ht : Nat.beq a.1 3 = true) : ∃ k : Nat, w = .inl (.ref k) ∧ q_den n v a.2.2.1 (k : Int) ∧ q_reg k = a.2.1 := by
  obtain ⟨x, hw, _, hr⟩ := (h v (q_agr.refl _ _)).2.2.1 (q_beq_iff.mp ht)
  refine ⟨x, hw, fun v' hv => ?_, hr⟩
  obtain ⟨y, hy, e, _⟩ := (h v' hv).2.2.1 (q_beq_iff.mp ht)
  rw [hw] at hy; cases hy; exact e.symm
theorem q_rep_vi {v : Nat → Int} {l : qL} {x : Int32} (h : q_ev v l = x.toInt) : q_rep v (q_vi l) (.inl (.int x)) := ⟨fun _ => ⟨x, rfl, h.symm⟩, (fun h => by cases h), (fun h => by cases h), (fun h => by cases h), (fun h => by cases h), (fun h => by cases h)⟩
theorem q_rep_vl {v : Nat → Int} {l : qL} {x : Int64} (h : q_ev v l = x.toInt) : q_rep v (q_vl l) (.inl (.long x)) := ⟨(fun h => by cases h), fun _ => ⟨x, rfl, h.symm⟩, (fun h => by cases h), (fun h => by cases h), (fun h => by cases h), (fun h => by cases h)⟩
theorem q_rep_vr {v : Nat → Int} {l : qL} {k r : Nat} (h : q_ev v l = (k : Int)) (hr : q_reg k = r) : q_rep v (q_vr r l) (.inl (.ref k)) := ⟨(fun h => by cases h), (fun h => by cases h), fun _ => ⟨k, rfl, h.symm, hr⟩, (fun h => by cases h), (fun h => by cases h), (fun h => by cases h)⟩
theorem q_rg_vi {l : qL} {x : Int32} (h : q_den n v l x.toInt) : q_rg n v (q_vi l) (.inl (.int x)) := fun v' hv => q_rep_vi (h v' hv)
theorem q_rg_vl {l : qL} {x : Int64} (h : q_den n v l x.toInt) : q_rg n v (q_vl l) (.inl (.long x)) := fun v' hv => q_rep_vl (h v' hv)
theorem q_stg.cons {a : qV} {t : List qV} {cs : List zV} (h : q_stg n v (a :: t) cs) : ∃ w s, cs = w :: s ∧ q_rg n v a w ∧ q_stg n v t s := by
  obtain ⟨w, s, e, _, _⟩ := h v (q_agr.refl _ _)
  refine ⟨w, s, e, fun v' hv => ?_, fun v' hv => ?_⟩
  · obtain ⟨w', s', e', h1, _⟩ := h v' hv
    rw [e] at e'; cases e'; exact h1
  · obtain ⟨w', s', e', _, h2⟩ := h v' hv
    rw [e] at e'; cases e'; exact h2
theorem q_stg.nil {cs : List zV} (h : q_stg n v [] cs) : cs = [] := h v (q_agr.refl _ _)
theorem q_stg.mk {a : qV} {t : List qV} {w : zV} {s : List zV} (h : q_rg n v a w) (h2 : q_stg n v t s) : q_stg n v (a :: t) (w :: s) := fun v' hv => ⟨w, s, rfl, h v' hv, h2 v' hv⟩
/-! worlds -/
variable {S : Nat → Int32} {X0 X : zH} {m : Nat} {w : qW}
theorem q_wg.b (h : q_wg S X0 m v w X) : q_bok v w.2.1 := (h v (q_agr.refl _ _)).1
theorem q_wg.c (h : q_wg S X0 m v w X) : q_cok v w.2.2.1 := (h v (q_agr.refl _ _)).2.1
theorem q_wg.inv (h : q_wg S X0 m v w X) : q_inv S X := (h v (q_agr.refl _ _)).2.2.1
theorem q_wg.frm (h : q_wg S X0 m v w X) : q_frm X0 m X := (h v (q_agr.refl _ _)).2.2.2.1
theorem q_wg.ge (h : q_wg S X0 m v w X) {l : qL} {x : Int} (hl : q_den w.1 v l x) (hp : q_ge0 w.2.1 l = true) : 0 ≤ x := by
  have := q_ge0_ok h.b hp
  rwa [hl.at] at this
theorem q_wg.pr (h : q_wg S X0 m v w X) {l : qL} {x : Int} (hl : q_den w.1 v l x) (hp : q_pr w.2.1 w.2.2.1 l = true) : 0 ≤ x := by
  have := q_pr_ok h.b h.c hp
  rwa [hl.at] at this
theorem q_wg.pr2 (h : q_wg S X0 m v w X) {l : qL} {x : Int} (hl : q_den w.1 v l x) (hp : q_pr2 w.2.1 w.2.2.1 l = true) : 0 ≤ x := by
  have := q_pr2_ok h.b h.c hp
  rwa [hl.at] at this
theorem q_wg.win (h : q_wg S X0 m v w X) {l : qL} {x lo hi : Int} (hl : q_den w.1 v l x) (hp : q_win w.2.1 w.2.2.1 l lo hi = true) : lo ≤ x ∧ x ≤ hi := by
  obtain ⟨h1, h2⟩ := z_if_and hp
  have a1 := h.pr (hl.pl _) h1
  have a2 := h.pr (hl.ng.pl _) h2
  have e : Int.neg lo = -lo := rfl
  rw [e] at a1
  exact ⟨by omega, by omega⟩
theorem q_eq_ok {b : qB} {v : Nat → Int} (hb : q_bok v b) {x y : qL} (h : q_eq b x y = true) : q_ev v x = q_ev v y := by
  unfold q_eq at h
  rw [q_fl_eq] at h
  obtain ⟨h1, h2⟩ := z_if_and h
  have a1 := q_ge0_ok hb h1
  have a2 := q_ge0_ok hb h2
  rw [q_ev_ng] at a2
  rw [q_ev_sub] at a1 a2
  omega
theorem q_eq2_ok {b : qB} {cs : List qL} {v : Nat → Int} (hb : q_bok v b) (hc : q_cok v cs) {x y : qL} (h : q_eq2 b cs x y = true) : q_ev v x = q_ev v y := by
  unfold q_eq2 at h
  rcases z_if_or h with h | h
  · exact q_eq_ok hb h
  · rw [q_fl_eq] at h
    obtain ⟨h1, h2⟩ := z_if_and h
    have a1 := q_pr_ok hb hc h1
    have a2 := q_pr_ok hb hc h2
    rw [q_ev_ng] at a2
    rw [q_ev_sub] at a1 a2
    omega
theorem q_lo_hi {b : qB} {v : Nat → Int} (hb : q_bok v b) {l : qL} {k : Int → Int → Bool} (h : q_rng b l k = true) : ∃ lo hi, lo ≤ q_ev v l ∧ q_ev v l ≤ hi ∧ k lo hi = true := by
  obtain ⟨lo, h1, h2⟩ := q_ob_iff.mp (show q_ob (q_lo b l) _ = true from h)
  obtain ⟨hi, h3, h4⟩ := q_ob_iff.mp h2
  rw [q_fi_eq, q_fi_eq] at h4
  exact ⟨lo, hi, q_lo_ok hb h1, q_hi_ok hb h3, h4⟩
theorem q_wg.rng (h : q_wg S X0 m v w X) {l : qL} {x : Int} (hl : q_den w.1 v l x) {k : Int → Int → Bool} (hp : q_rng w.2.1 l k = true) : ∃ lo hi, lo ≤ x ∧ x ≤ hi ∧ k lo hi = true := by
  have := q_lo_hi h.b hp
  rwa [hl.at] at this
/-- a new var -/
def q_upd (v : Nat → Int) (n : Nat) (z : Int) : Nat → Int := fun i => if i = n then z else v i
theorem q_upd_agr (v : Nat → Int) (n : Nat) (z : Int) : q_agr n v (q_upd v n z) := fun i hi => by
  show (if i = n then z else v i) = v i
  rw [if_neg (by omega)]
theorem q_upd_at (v : Nat → Int) (n : Nat) (z : Int) : q_upd v n z n = z := by show (if n = n then z else v n) = z; rw [if_pos rfl]
theorem q_fr_ok {lo hi z : Int} {mk : qL → List qL} {k : qW → qL → Bool} (h : q_fr lo hi mk k w = true) (hw : q_wg S X0 m v w X) (hlo : lo ≤ z) (hhi : z ≤ hi) (hmk : ∀ v', q_agr w.1 v v' → v' w.1 = z → ∀ c ∈ mk (q_v w.1), 0 ≤ q_ev v' c) :
    ∃ w' l v1, k w' l = true ∧ q_ext w.1 v w'.1 v1 ∧ q_wg S X0 m v1 w' X ∧ q_den w'.1 v1 l z := by
  unfold q_fr at h
  rw [q_cw_eq, q_fn_eq] at h
  have ea : ∀ v', q_agr (Nat.succ w.1) (q_upd v w.1 z) v' → q_agr w.1 v v' ∧ v' w.1 = z := fun v' hv => ⟨q_agr.trans (Nat.le_succ _) (q_upd_agr v w.1 z) hv, by rw [hv w.1 (Nat.lt_succ_self _), q_upd_at]⟩
  refine ⟨_, _, q_upd v w.1 z, h, ⟨Nat.le_succ _, q_upd_agr v w.1 z⟩, fun v' hv => ?_, fun v' hv => ?_⟩
  · obtain ⟨h1, h2⟩ := ea v' hv
    obtain ⟨a1, a2, a3, a4, a5, a6⟩ := hw v' h1
    refine ⟨fun q hq => ?_, fun c hc => ?_, a3, a4, a5, a6⟩
    · rcases List.mem_cons.mp hq with e | e
      · rw [e]; show lo ≤ v' w.1 ∧ v' w.1 ≤ hi; rw [h2]; exact ⟨hlo, hhi⟩
      · exact a1 q e
    · have hc' : c ∈ z_cat2 (mk (q_v w.1)) w.2.2.1 := hc
      rw [q_cat2_eq] at hc'
      rcases List.mem_append.mp hc' with e | e
      · exact hmk v' h1 h2 c e
      · exact a2 c e
  · rw [q_ev_v, (ea v' hv).2]
theorem q_fr0_ok {lo hi z : Int} {k : qW → qL → Bool} (h : q_fr lo hi (fun _ => []) k w = true) (hw : q_wg S X0 m v w X) (hlo : lo ≤ z) (hhi : z ≤ hi) :
    ∃ w' l v1, k w' l = true ∧ q_ext w.1 v w'.1 v1 ∧ q_wg S X0 m v1 w' X ∧ q_den w'.1 v1 l z := q_fr_ok h hw hlo hhi (fun _ _ _ c hc => by cases hc)
/-! to take for granted -/
theorem q_rfk_ok {l : qL} (hl : 0 ≤ q_ev v l) {k : qB → Bool} (ts : List (Nat × Int)) : ∀ {b : qB}, q_bok v b → q_rfk l k ts b = true → ∃ b', k b' = true ∧ q_bok v b' ∧ ∀ v', 0 ≤ q_ev v' l → q_bok v' b → q_bok v' b' := by
  induction ts with
  | nil => intro b hb h; exact ⟨b, h, hb, fun _ _ h => h⟩
  | cons q t ih =>
    intro b hb h
    have key : ∀ (p : Nat × Int × Int), (∀ v', 0 ≤ q_ev v' l → q_bok v' b → p.2.1 ≤ v' p.1 ∧ v' p.1 ≤ p.2.2) → q_rfk l k t (p :: b) = true → ∃ b', k b' = true ∧ q_bok v b' ∧ ∀ v', 0 ≤ q_ev v' l → q_bok v' b → q_bok v' b' := by
      intro p hp hr
      have hpb : ∀ v', 0 ≤ q_ev v' l → q_bok v' b → q_bok v' (p :: b) := fun v' h1 h2 r hr => by
        rcases List.mem_cons.mp hr with e | e
        · rw [e]; exact hp v' h1 h2
        · exact h2 r e
      obtain ⟨b', k1, k2, k3⟩ := ih (hpb v hl hb) hr
      exact ⟨b', k1, k2, fun v' h1 h2 => k3 v' h1 (hpb v' h1 h2)⟩
    have h0 : z_if (q_is0 (Int.sub q.2 (Int.ofNat 1)))
      (Option.rec (motive := fun _ => Bool) (q_rfk l k t b) (fun x => Option.rec (motive := fun _ => Bool) (q_rfk l k t b) (fun h => q_fi (Int.neg h) fun h => z_if (q_le h x.1) (q_rfk l k t b) (q_fi x.2 fun y => q_rfk l k t ((q.1, h, y) :: b))) (q_hi b (q_sub l (q_v q.1)))) (q_bx b q.1))
      (z_if (q_is0 (Int.add q.2 (Int.ofNat 1)))
      (Option.rec (motive := fun _ => Bool) (q_rfk l k t b) (fun x => Option.rec (motive := fun _ => Bool) (q_rfk l k t b) (fun h => q_fi h fun h => z_if (q_le x.2 h) (q_rfk l k t b) (q_fi x.1 fun y => q_rfk l k t ((q.1, y, h) :: b))) (q_hi b (q_add l (q_v q.1)))) (q_bx b q.1))
      (q_rfk l k t b)) = true := h
    rcases q_if_iff.mp h0 with ⟨_, h1⟩ | ⟨_, h1⟩
    · cases h2 : q_bx b q.1 with
      | none => rw [h2] at h1; exact ih hb h1
      | some x =>
        rw [h2] at h1
        cases h3 : q_hi b (q_sub l (q_v q.1)) with
        | none => rw [h3] at h1; exact ih hb h1
        | some y =>
          rw [h3] at h1
          have h1 : q_fi (Int.neg y) (fun h => z_if (q_le h x.1) (q_rfk l k t b) (q_fi x.2 fun y => q_rfk l k t ((q.1, h, y) :: b))) = true := h1
          rw [q_fi_eq, q_fi_eq] at h1
          rcases q_if_iff.mp h1 with ⟨_, h4⟩ | ⟨_, h4⟩
          · exact ih hb h4
          · refine key (q.1, Int.neg y, x.2) (fun v' g1 g2 => ?_) h4
            have h5 := q_hi_ok g2 h3
            rw [q_ev_sub, q_ev_v] at h5
            exact ⟨by show -y ≤ v' q.1; omega, (q_bx_ok g2 h2).2⟩
    · rcases q_if_iff.mp h1 with ⟨_, h1⟩ | ⟨_, h1⟩
      · cases h2 : q_bx b q.1 with
        | none => rw [h2] at h1; exact ih hb h1
        | some x =>
          rw [h2] at h1
          cases h3 : q_hi b (q_add l (q_v q.1)) with
          | none => rw [h3] at h1; exact ih hb h1
          | some y =>
            rw [h3] at h1
            have h1 : q_fi y (fun h => z_if (q_le x.2 h) (q_rfk l k t b) (q_fi x.1 fun y => q_rfk l k t ((q.1, y, h) :: b))) = true := h1
            rw [q_fi_eq, q_fi_eq] at h1
            rcases q_if_iff.mp h1 with ⟨_, h4⟩ | ⟨_, h4⟩
            · exact ih hb h4
            · refine key (q.1, x.1, y) (fun v' g1 g2 => ?_) h4
              have h5 := q_hi_ok g2 h3
              rw [q_ev_add, q_ev_v] at h5
              exact ⟨(q_bx_ok g2 h2).1, by show v' q.1 ≤ y; omega⟩
      · exact ih hb h1
theorem q_assk_ok {k : qB → List qL → Bool} (ls : List qL) : ∀ {b : qB} {cs : List qL}, q_bok v b → q_cok v cs → (∀ l ∈ ls, 0 ≤ q_ev v l) → q_assk k ls b cs = true →
    ∃ b' cs', k b' cs' = true ∧ ∀ v', (∀ l ∈ ls, 0 ≤ q_ev v' l) → q_bok v' b → q_cok v' cs → q_bok v' b' ∧ q_cok v' cs' := by
  induction ls with
  | nil => intro b cs hb hc _ h; exact ⟨b, cs, h, fun _ _ h1 h2 => ⟨h1, h2⟩⟩
  | cons l t ih =>
    intro b cs hb hc hl h
    have h : q_fl l (fun l => q_ask l (q_assk k t) b cs) = true := h
    rw [q_fl_eq] at h
    have hl0 := hl l (List.mem_cons_self ..)
    have hlt : ∀ x ∈ t, 0 ≤ q_ev v x := fun x hx => hl x (List.mem_cons_of_mem _ hx)
    have h : z_if (q_pr b cs (q_pl (q_ng l) (Int.negSucc 0))) true (z_if (q_one l.2) (q_rfk l (fun b' => q_assk k t b' cs) l.2 b) (z_if (q_ge0 b l) (q_rfk l (fun b' => q_assk k t b' cs) l.2 b) (q_rfk l (fun b' => q_assk k t b' (l :: cs)) l.2 b))) = true := h
    rcases q_if_iff.mp h with ⟨h1, _⟩ | ⟨_, h1⟩
    · have h2 := q_pr_ok hb hc h1
      rw [q_ev_pl, q_ev_ng] at h2
      have e : (Int.negSucc 0 : Int) = -1 := rfl
      rw [e] at h2
      omega
    · have go : ∀ cs', (∀ v', 0 ≤ q_ev v' l → q_cok v' cs → q_cok v' cs') → q_rfk l (fun b' => q_assk k t b' cs') l.2 b = true → ∃ b' cs', k b' cs' = true ∧ ∀ v', (∀ x ∈ (l :: t), 0 ≤ q_ev v' x) → q_bok v' b → q_cok v' cs → q_bok v' b' ∧ q_cok v' cs' := by
        intro cs' hcs hr
        obtain ⟨b1, k1, k2, k3⟩ := q_rfk_ok hl0 l.2 hb hr
        obtain ⟨b2, c2, r1, r2⟩ := ih k2 (hcs v hl0 hc) hlt k1
        refine ⟨b2, c2, r1, fun v' g1 g2 g3 => ?_⟩
        have g0 := g1 l (List.mem_cons_self ..)
        exact r2 v' (fun x hx => g1 x (List.mem_cons_of_mem _ hx)) (k3 v' g0 g2) (hcs v' g0 g3)
      have hcons : ∀ v', 0 ≤ q_ev v' l → q_cok v' cs → q_cok v' (l :: cs) := fun v' g1 g2 c hm => by
        rcases List.mem_cons.mp hm with e | e
        · rw [e]; exact g1
        · exact g2 c e
      rcases q_if_iff.mp h1 with ⟨_, h2⟩ | ⟨_, h2⟩
      · exact go cs (fun _ _ h => h) h2
      · rcases q_if_iff.mp h2 with ⟨_, h3⟩ | ⟨_, h3⟩
        · exact go cs (fun _ _ h => h) h3
        · exact go (l :: cs) hcons h3
theorem q_asm_ok {ls : List qL} {k : qW → Bool} (h : q_asm ls k w = true) (hw : q_wg S X0 m v w X) (hl : ∀ l ∈ ls, ∃ x, q_den w.1 v l x ∧ 0 ≤ x) : ∃ w', k w' = true ∧ w'.1 = w.1 ∧ q_wg S X0 m v w' X := by
  unfold q_asm at h
  rw [q_cw_eq] at h
  have hall : ∀ v', q_agr w.1 v v' → ∀ l ∈ ls, 0 ≤ q_ev v' l := fun v' hv l hm => by
    obtain ⟨x, hx, h0⟩ := hl l hm
    rw [hx v' hv]; exact h0
  obtain ⟨b', cs', k1, k2⟩ := q_assk_ok ls hw.b hw.c (hall v (q_agr.refl _ _)) h
  refine ⟨_, k1, rfl, fun v' hv => ?_⟩
  obtain ⟨a1, a2, a3, a4, a5, a6⟩ := hw v' hv
  obtain ⟨r1, r2⟩ := k2 v' (hall v' hv) a1 a2
  exact ⟨r1, r2, a3, a4, a5, a6⟩
end
