/-! forcing: a number, a form, worked out before what comes next -/
noncomputable abbrev q_fn {α : Type} (n : Nat) (k : Nat → α) : α := Nat.rec (motive := fun _ => α) (k 0) (fun m _ => k (Nat.succ m)) n
noncomputable def q_fi {α : Type} (x : Int) (k : Int → α) : α := Int.rec (motive := fun _ => α) (fun n => q_fn n fun m => k (Int.ofNat m)) (fun n => q_fn n fun m => k (Int.negSucc m)) x
noncomputable def q_ft {α : Type} (ts : List (Nat × Int)) : (List (Nat × Int) → α) → α := List.rec (motive := fun _ => (List (Nat × Int) → α) → α) (fun k => k []) (fun q _ ih k => q_fn (Prod.fst q) fun i => q_fi (Prod.snd q) fun c => ih fun t => k ((i, c) :: t)) ts
noncomputable def q_fl {α : Type} (l : qL) (k : qL → α) : α := q_fi l.1 fun c => q_ft l.2 fun t => k (c, t)
theorem q_fn_eq {α : Type} (n : Nat) (k : Nat → α) : q_fn n k = k n := by cases n <;> rfl
theorem q_fi_eq {α : Type} (x : Int) (k : Int → α) : q_fi x k = k x := by
  cases x with
  | ofNat n => exact q_fn_eq n fun m => k (Int.ofNat m)
  | negSucc n => exact q_fn_eq n fun m => k (Int.negSucc m)
theorem q_ft_eq {α : Type} (ts : List (Nat × Int)) : ∀ (k : List (Nat × Int) → α), q_ft ts k = k ts := by
  induction ts with
  | nil => intro k; rfl
  | cons q t ih =>
    intro k
    show q_fn q.1 (fun i => q_fi q.2 fun c => q_ft t fun t => k ((i, c) :: t)) = k (q :: t)
    rw [q_fn_eq, q_fi_eq, ih]
theorem q_fl_eq {α : Type} (l : qL) (k : qL → α) : q_fl l k = k l := by
  show q_fi l.1 (fun c => q_ft l.2 fun t => k (c, t)) = k l
  rw [q_fi_eq, q_ft_eq]
/-! values: (0, ..) anything, (1, _, l) an int, (2, _, l) a long, (3, r, l) a cell of region r, (4, _, l, i) an int as a row of eighteens may hold it at i, (5, _, l, m) two longs compared, (6, 0, ..) the text of the signs, (6, 1, ..) its bytes -/
abbrev qV : Type := Nat × Nat × qL × qL
abbrev qFa : Type := Nat × qL × qL × qV
abbrev qGh : Type := Nat × List qL
abbrev qW : Type := Nat × qB × List qL × List qFa × List qGh
abbrev qA : Type := Nat × List (Nat × qV) × List qV × qW
abbrev q_0 : qL := (Int.ofNat 0, [])
abbrev q_vi (l : qL) : qV := (1, 0, l, q_0)
abbrev q_vl (l : qL) : qV := (2, 0, l, q_0)
abbrev q_vr (r : Nat) (l : qL) : qV := (3, r, l, q_0)
/-! the heap: cells, regions, places -/
def q_reg (k : Nat) : Nat := if k = 1000000 then 90 else (q_regs[k]?).getD 99
def q_rk (r : Nat) : Nat × Nat × Nat × Nat := (q_rks[r]?).getD (2, 0, 0, 1000)
def q_plc (k j : Nat) : Nat := if (q_rk (q_reg k)).1 = 1 then (q_rk (q_reg k)).2.2.2 + j else (q_rk (q_reg k)).2.2.2
def q_sp (p : Nat) : Nat × Nat × Int × Int := (q_sps[p]?).getD (0, 0, 0, 0)
def q_len (k : Nat) : Nat := (q_rk (q_reg k)).2.2.1
/-- what lies in slot j of cell k -/
noncomputable def q_hs (X : zH) (k j : Nat) : zV := match z_hg X k with
  | some (.inr o) => o.2.getD j (.inl .null)
  | some (.inl a) => z_el a.1 a.2.2 j
  | none => .inl .null
noncomputable def q_slot (S : Nat → Int32) (X : zH) (k j : Nat) : zV := if k = 1000000 then .inl (.int (S j)) else q_hs X k j
/-- rows of eighteens -/
def q_f18 (j : Nat) (x : Int) : Prop := (j % 18 < 2 → -1 ≤ x ∧ x ≤ 7) ∧ (4 ≤ j % 18 → j % 18 < 8 → -1 ≤ x ∧ x ≤ 4)
def q_spok (s : Nat × Nat × Int × Int) (j : Nat) (w : zV) : Prop :=
  (s.1 = 1 → ∃ x : Int32, w = .inl (.int x) ∧ s.2.2.1 ≤ x.toInt ∧ x.toInt ≤ s.2.2.2) ∧
  (s.1 = 2 → ∃ x : Int64, w = .inl (.long x)) ∧
  (s.1 = 3 → ∃ k : Nat, w = .inl (.ref k) ∧ q_reg k = s.2.1) ∧
  (s.1 = 4 → ∃ x : Int32, w = .inl (.int x) ∧ q_f18 j x.toInt)
def q_shape (k : Nat) (c : zC) : Prop :=
  ((q_rk (q_reg k)).1 = 1 → ∃ fs, c = some (.inr ((q_rk (q_reg k)).2.1, fs)) ∧ fs.length = q_len k) ∧
  ((q_rk (q_reg k)).1 = 0 → ∃ u, c = some (.inl ((q_rk (q_reg k)).2.1, q_len k, u)))
def q_inv (S : Nat → Int32) (X : zH) : Prop := X.1 = 190 ∧ (∀ k, k < 190 → q_shape k (z_hg X k)) ∧ (∀ k j, k < 190 → j < q_len k → q_spok (q_sp (q_plc k j)) j (q_hs X k j)) ∧ 0 ≤ (S 3072).toInt ∧ (S 3072).toInt ≤ 3072
def q_frm (X0 : zH) (m : Nat) (X : zH) : Prop := ∀ k j, k < 190 → Nat.testBit m (q_plc k j) = false → q_hs X k j = q_hs X0 k j
/-- the int in a slot -/
noncomputable def q_gi (X : zH) (k j : Nat) : Int := match q_hs X k j with
  | .inl (.int x) => x.toInt
  | _ => 0
/-! ghosts: words about rows of the reference -/
def q_pile (wh sg : Nat → Int) : Nat → Int → Prop := fun n => match n with
  | 0 => fun _ => False
  | 1 => fun w => wh 0 = 8 ∧ w = 0
  | m + 2 => fun w => ((wh (m + 1) = 7 ∨ (wh (m + 1) = 3 ∧ sg (m + 1) = 126)) ∧ q_pile wh sg (m + 1) (w - 1)) ∨
      ((wh (m + 1) = 1 ∨ wh (m + 1) = 2 ∨ wh (m + 1) = 4 ∨ wh (m + 1) = 5 ∨ wh (m + 1) = 6) ∧ ((37 ≤ sg (m + 1) ∧ sg (m + 1) ≤ 62) ∨ sg (m + 1) = 124) ∧ q_pile wh sg (m + 1) w)
/-- the code from f on, n signs of it, leaves d -/
def q_rpn (cd : Nat → Int) (f : Nat) : Nat → Int → Prop := fun n => match n with
  | 0 => fun d => d = 0
  | k + 1 => fun d => (97 ≤ cd (f + k) ∧ cd (f + k) ≤ 122 ∧ d ≤ 60 ∧ q_rpn cd f k (d - 1)) ∨ (cd (f + k) = 126 ∧ 1 ≤ d ∧ q_rpn cd f k d) ∨
      (((37 ≤ cd (f + k) ∧ cd (f + k) ≤ 62) ∨ cd (f + k) = 124) ∧ 1 ≤ d ∧ q_rpn cd f k (d + 1))
def q_RPN (cd : Nat → Int) (f c d : Int) : Prop := 0 ≤ f ∧ f ≤ c ∧ q_rpn cd f.toNat (c - f).toNat d
def q_HV (cd fr to hv : Nat → Int) (b : Int) : Prop := (b = 0 ∨ b = 1) ∧ (hv b.toNat = 1 → 560 * b ≤ fr b.toNat ∧ to b.toNat ≤ 560 * b + 560 ∧ ∃ d, q_RPN cd (fr b.toNat) (to b.toNat) d)
def q_nob (tn gr : Nat → Int) (bank g : Int) (p : Int) : Prop := ∀ q : Int, 0 ≤ q → q < p → tn (8 * bank + q).toNat ≠ gr (6 * bank + g).toNat
def q_zc (se : Nat → Int) : Nat → Nat := fun n => match n with
  | 0 => 0
  | k + 1 => q_zc se k + (if se k = 0 then 1 else 0)
noncomputable def q_gok (X : zH) (g : Nat) (as : List Int) : Prop := match g, as with
  | 0, [m, w] => q_pile (q_gi X 172) (q_gi X 173) m.toNat w
  | 1, [f, c, d] => q_RPN (q_gi X 170) f c d
  | 2, [f, c] => ∃ d, q_RPN (q_gi X 170) f c d
  | 3, [b] => q_HV (q_gi X 170) (q_gi X 162) (q_gi X 163) (q_gi X 164) b
  | 4, [] => q_HV (q_gi X 170) (q_gi X 162) (q_gi X 163) (q_gi X 164) (q_gi X 144 39)
  | 5, [k, t, n] => ∃ f d, q_RPN (q_gi X 170) f k n ∧ q_RPN (q_gi X 170) f t d ∧ k ≤ t
  | 6, [k] => ∀ j : Int, 0 ≤ j → j < k → q_gi X 181 j.toNat = 0
  | 7, [n] => (∀ j, j < 36 → q_gi X 181 j ≤ n) ∧ (q_zc (q_gi X 181) 36 : Int) = 36 - n ∧ 0 ≤ n
  | 8, [n, i] => 0 ≤ i ∧ i < 36 ∧ 0 ≤ n ∧ (∀ j : Nat, j < 36 → (j : Int) ≠ i → q_gi X 181 j ≤ n) ∧ (q_zc (fun (j : Nat) => if (j : Int) = i then 1 else q_gi X 181 j) 36 : Int) = 35 - n
  | 9, [g, b, p] => 0 ≤ b ∨ q_nob (q_gi X 156) (q_gi X 159) (q_gi X 144 39) g p
  | 10, [g, b] => 0 ≤ b ∨ q_nob (q_gi X 156) (q_gi X 159) (q_gi X 144 39) g (q_gi X 148 (q_gi X 144 39).toNat)
  | 11, [g] => ∀ h : Int, 0 ≤ h → h < g → 0 ≤ q_gi X 176 h.toNat ∨ q_nob (q_gi X 156) (q_gi X 159) (q_gi X 144 39) h (q_gi X 148 (q_gi X 144 39).toNat)
  | 12, [] => ∀ h : Int, 0 ≤ h → h < q_gi X 149 (q_gi X 144 39).toNat → 0 ≤ q_gi X 176 h.toNat ∨ q_nob (q_gi X 156) (q_gi X 159) (q_gi X 144 39) h (q_gi X 148 (q_gi X 144 39).toNat)
  | _, _ => False
/-! what a state stands for -/
def q_rep (v : Nat → Int) (a : qV) (w : zV) : Prop :=
  (a.1 = 1 → ∃ x : Int32, w = .inl (.int x) ∧ x.toInt = q_ev v a.2.2.1) ∧
  (a.1 = 2 → ∃ x : Int64, w = .inl (.long x) ∧ x.toInt = q_ev v a.2.2.1) ∧
  (a.1 = 3 → ∃ k : Nat, w = .inl (.ref k) ∧ (k : Int) = q_ev v a.2.2.1 ∧ q_reg k = a.2.1) ∧
  (a.1 = 4 → ∃ x : Int32, w = .inl (.int x) ∧ x.toInt = q_ev v a.2.2.1 ∧ ∃ j : Nat, (j : Int) = q_ev v a.2.2.2 ∧ q_f18 j x.toInt) ∧
  (a.1 = 5 → ∃ x y : Int64, w = .inl (.int (lg_cmp x y)) ∧ x.toInt = q_ev v a.2.2.1 ∧ y.toInt = q_ev v a.2.2.2) ∧
  (a.1 = 6 → w = .inl (.ref (1000003 + a.2.1)))
def q_fok (S : Nat → Int32) (X : zH) (v : Nat → Int) (f : qFa) : Prop := ∃ k j : Nat, (k : Int) = q_ev v f.2.1 ∧ (j : Int) = q_ev v f.2.2.1 ∧ q_plc k j = f.1 ∧ q_rep v f.2.2.2 (q_slot S X k j) ∧ (k < 190 ∨ k = 1000000)
def q_wok (S : Nat → Int32) (X0 : zH) (m : Nat) (v : Nat → Int) (w : qW) (X : zH) : Prop :=
  q_bok v w.2.1 ∧ q_cok v w.2.2.1 ∧ q_inv S X ∧ q_frm X0 m X ∧ (∀ f ∈ w.2.2.2.1, q_fok S X v f) ∧ (∀ g ∈ w.2.2.2.2, q_gok X g.1 (g.2.map (q_ev v)))
def q_sts (v : Nat → Int) : List qV → List zV → Prop := fun as => match as with
  | [] => fun ws => ws = []
  | a :: t => fun ws => ∃ w s, ws = w :: s ∧ q_rep v a w ∧ q_sts v t s
def q_lok (v : Nat → Int) (ls : List (Nat × qV)) (cs : zL) : Prop := ∀ q ∈ ls, ∃ w, z_get cs q.1 = some w ∧ q_rep v q.2 w
def q_sat (S : Nat → Int32) (X0 : zH) (m : Nat) (cc : Nat × Nat) (v : Nat → Int) (A : qA) (F : zF) : Prop :=
  F.1 = A.1 ∧ q_lok v A.2.1 F.2.1 ∧ q_sts v A.2.2.1 F.2.2.1 ∧ q_wok S X0 m v A.2.2.2 F.2.2.2.1 ∧ F.2.2.2.2 = cc
def q_agr (n : Nat) (v v' : Nat → Int) : Prop := ∀ i, i < n → v' i = v i
def q_gam (S : Nat → Int32) (X0 : zH) (m : Nat) (cc : Nat × Nat) (v : Nat → Int) (A : qA) (F : zF) : Prop := ∀ v', q_agr A.2.2.2.1 v v' → q_sat S X0 m cc v' A F
