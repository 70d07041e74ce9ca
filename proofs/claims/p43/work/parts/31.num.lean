/-! the checker is sound: numbers -/
theorem q_i32 (x : Int32) : q_MIN ≤ x.toInt ∧ x.toInt ≤ q_MAX := by
  have h1 := Int32.toInt_lt x
  have h2 := Int32.le_toInt x
  have e1 : q_MIN = -2147483648 := rfl
  have e2 : q_MAX = 2147483647 := rfl
  rw [e1, e2]
  omega
theorem q_i64 (x : Int64) : q_LMIN ≤ x.toInt ∧ x.toInt ≤ q_LMAX := by
  have h1 := Int64.toInt_lt x
  have h2 := Int64.le_toInt x
  have e1 : q_LMIN = -9223372036854775808 := rfl
  have e2 : q_LMAX = 9223372036854775807 := rfl
  rw [e1, e2]
  omega
theorem q_bm {z : Int} (h1 : q_MIN ≤ z) (h2 : z ≤ q_MAX) : z.bmod (2 ^ 32) = z := by
  have e1 : q_MIN = -2147483648 := rfl
  have e2 : q_MAX = 2147483647 := rfl
  rw [e1] at h1; rw [e2] at h2
  exact Int.bmod_eq_of_le (by show -(((2 ^ 32 : Nat) : Int) / 2) ≤ z; omega) (by show z < (((2 ^ 32 : Nat) : Int) + 1) / 2; omega)
/-- of a number that isn't negative -/
theorem q_nat {x : Int32} (h : 0 ≤ x.toInt) : x.toInt = (x.toBitVec.toNat : Int) ∧ x.toBitVec.toNat < 2147483648 := by
  have e : x.toInt = x.toBitVec.toInt := rfl
  have h1 := BitVec.toInt_eq_toNat_cond x.toBitVec
  have h2 := x.toBitVec.isLt
  rw [e] at h ⊢
  rw [h1] at h ⊢
  split
  · rename_i h3
    exact ⟨rfl, by omega⟩
  · rename_i h3
    rw [if_neg h3] at h
    exfalso
    have e2 : ((2 ^ 32 : Nat) : Int) = 4294967296 := rfl
    omega
theorem q_natof {x : Int32} (h : x.toBitVec.toNat < 2147483648) : x.toInt = (x.toBitVec.toNat : Int) := by
  have e : x.toInt = x.toBitVec.toInt := rfl
  rw [e, BitVec.toInt_eq_toNat_cond, if_pos (by omega)]
theorem q_natneg {x : Int32} (h : x.toInt < 0) : x.toInt = (x.toBitVec.toNat : Int) - 4294967296 := by
  have e : x.toInt = x.toBitVec.toInt := rfl
  rw [e] at h ⊢
  rw [BitVec.toInt_eq_toNat_cond] at h ⊢
  split
  · rename_i h3
    rw [if_pos h3] at h
    omega
  · rfl
theorem q_mn_le (a b : Int) : q_mn a b ≤ a ∧ q_mn a b ≤ b := by
  show z_if (q_le a b) a b ≤ a ∧ z_if (q_le a b) a b ≤ b
  cases h : q_le a b with
  | true => exact ⟨Int.le_refl _, q_le_ok.mp h⟩
  | false =>
    have : ¬ a ≤ b := fun h2 => by rw [q_le_ok.mpr h2] at h; cases h
    show b ≤ a ∧ b ≤ b
    omega
theorem q_mx_le (a b : Int) : a ≤ q_mx a b ∧ b ≤ q_mx a b := by
  show a ≤ z_if (q_le a b) b a ∧ b ≤ z_if (q_le a b) b a
  cases h : q_le a b with
  | true => exact ⟨q_le_ok.mp h, Int.le_refl _⟩
  | false =>
    have : ¬ a ≤ b := fun h2 => by rw [q_le_ok.mpr h2] at h; cases h
    show a ≤ a ∧ b ≤ a
    omega
theorem q_mn_ge {a b x : Int} (h1 : x ≤ a) (h2 : x ≤ b) : x ≤ q_mn a b := by
  show x ≤ z_if (q_le a b) a b
  cases q_le a b <;> assumption
theorem q_mx_ge {a b x : Int} (h1 : a ≤ x) (h2 : b ≤ x) : q_mx a b ≤ x := by
  show z_if (q_le a b) b a ≤ x
  cases q_le a b <;> assumption
section
variable {S : Nat → Int32} {X0 X : zH} {m : Nat} {v : Nat → Int} {w : qW} {k : qW → Bool} {l1 l2 l3 l4 : qL} {x1 x2 x3 x4 : Int}
theorem q_asm1_ok (h : q_asm [l1] k w = true) (hw : q_wg S X0 m v w X) (d1 : q_den w.1 v l1 x1) (e1 : 0 ≤ x1) : ∃ w', k w' = true ∧ w'.1 = w.1 ∧ q_wg S X0 m v w' X := q_asm_ok h hw fun l hl => by
  rw [List.mem_singleton.mp hl]; exact ⟨x1, d1, e1⟩
theorem q_asm2_ok (h : q_asm [l1, l2] k w = true) (hw : q_wg S X0 m v w X) (d1 : q_den w.1 v l1 x1) (e1 : 0 ≤ x1) (d2 : q_den w.1 v l2 x2) (e2 : 0 ≤ x2) : ∃ w', k w' = true ∧ w'.1 = w.1 ∧ q_wg S X0 m v w' X := q_asm_ok h hw fun l hl => by
  rcases List.mem_cons.mp hl with e | hl
  · rw [e]; exact ⟨x1, d1, e1⟩
  · rw [List.mem_singleton.mp hl]; exact ⟨x2, d2, e2⟩
theorem q_asm3_ok (h : q_asm [l1, l2, l3] k w = true) (hw : q_wg S X0 m v w X) (d1 : q_den w.1 v l1 x1) (e1 : 0 ≤ x1) (d2 : q_den w.1 v l2 x2) (e2 : 0 ≤ x2) (d3 : q_den w.1 v l3 x3) (e3 : 0 ≤ x3) : ∃ w', k w' = true ∧ w'.1 = w.1 ∧ q_wg S X0 m v w' X := q_asm_ok h hw fun l hl => by
  rcases List.mem_cons.mp hl with e | hl
  · rw [e]; exact ⟨x1, d1, e1⟩
  · rcases List.mem_cons.mp hl with e | hl
    · rw [e]; exact ⟨x2, d2, e2⟩
    · rw [List.mem_singleton.mp hl]; exact ⟨x3, d3, e3⟩
theorem q_asm4_ok (h : q_asm [l1, l2, l3, l4] k w = true) (hw : q_wg S X0 m v w X) (d1 : q_den w.1 v l1 x1) (e1 : 0 ≤ x1) (d2 : q_den w.1 v l2 x2) (e2 : 0 ≤ x2) (d3 : q_den w.1 v l3 x3) (e3 : 0 ≤ x3) (d4 : q_den w.1 v l4 x4) (e4 : 0 ≤ x4) : ∃ w', k w' = true ∧ w'.1 = w.1 ∧ q_wg S X0 m v w' X := q_asm_ok h hw fun l hl => by
  rcases List.mem_cons.mp hl with e | hl
  · rw [e]; exact ⟨x1, d1, e1⟩
  · rcases List.mem_cons.mp hl with e | hl
    · rw [e]; exact ⟨x2, d2, e2⟩
    · rcases List.mem_cons.mp hl with e | hl
      · rw [e]; exact ⟨x3, d3, e3⟩
      · rw [List.mem_singleton.mp hl]; exact ⟨x4, d4, e4⟩
end
section
variable {S : Nat → Int32} {X0 X : zH} {m : Nat} {v : Nat → Int} {w : qW}
/-- what a world's step gives: a world, a form for the number -/
def q_out (S : Nat → Int32) (X0 X : zH) (m : Nat) (v : Nat → Int) (w : qW) (k : qW → qL → Bool) (z : Int) : Prop := ∃ w' l v1, k w' l = true ∧ q_ext w.1 v w'.1 v1 ∧ q_wg S X0 m v1 w' X ∧ q_den w'.1 v1 l z
theorem q_out.now {k : qW → qL → Bool} {l : qL} {z : Int} (h : k w l = true) (hw : q_wg S X0 m v w X) (hl : q_den w.1 v l z) : q_out S X0 X m v w k z := ⟨w, l, v, h, q_ext.refl _ _, hw, hl⟩
theorem q_any0_ok {k : qW → qL → Bool} (h : q_any0 k w = true) (hw : q_wg S X0 m v w X) (x : Int32) : q_out S X0 X m v w k x.toInt := q_fr0_ok h hw (q_i32 x).1 (q_i32 x).2
theorem q_res_ok {k : qW → qL → Bool} {l : qL} {z : Int} {x : Int32} (h : q_res l k w = true) (hw : q_wg S X0 m v w X) (hl : q_den w.1 v l z) (hx : q_MIN ≤ z → z ≤ q_MAX → x.toInt = z) : q_out S X0 X m v w k x.toInt := by
  unfold q_res at h
  rw [q_fl_eq, q_cw_eq] at h
  rcases q_if_iff.mp h with ⟨h1, h2⟩ | ⟨_, h2⟩
  · obtain ⟨a1, a2⟩ := hw.win hl h1
    rw [hx a1 a2]
    exact q_out.now h2 hw hl
  · exact q_any0_ok h2 hw x
/-- an operation of two ints -/
def q_arok (S : Nat → Int32) (X0 X : zH) (m : Nat) (f : qL → qL → (qW → qL → Bool) → qW → Bool) (c : Int32 → Prop) (g : Int32 → Int32 → Int32) : Prop :=
  ∀ {x y : qL} {k : qW → qL → Bool} {w : qW} {v : Nat → Int} {a b : Int32}, f x y k w = true → q_wg S X0 m v w X → q_den w.1 v x a.toInt → q_den w.1 v y b.toInt → c b ∧ q_out S X0 X m v w k (g a b).toInt
theorem q_iadd_ok : q_arok S X0 X m q_iadd (fun _ => True) (· + ·) := by
  intro x y k w v a b h hw hx hy
  exact ⟨trivial, q_res_ok (show q_res (q_add x y) k w = true from h) hw (hx.add hy) fun h1 h2 => by rw [Int32.toInt_add, q_bm h1 h2]⟩
theorem q_isub_ok : q_arok S X0 X m q_isub (fun _ => True) (· - ·) := by
  intro x y k w v a b h hw hx hy
  exact ⟨trivial, q_res_ok (show q_res (q_sub x y) k w = true from h) hw (hx.sub hy) fun h1 h2 => by rw [Int32.toInt_sub, q_bm h1 h2]⟩
theorem q_ianyb_ok (g : Int32 → Int32 → Int32) : q_arok S X0 X m q_ianyb (fun _ => True) g := by
  intro x y k w v a b h hw hx hy
  exact ⟨trivial, q_any0_ok (show q_any0 k w = true from h) hw _⟩
theorem q_const {l : qL} (h : z_nil l.2 = true) (v : Nat → Int) : q_ev v l = l.1 := by
  have := q_nil_iff.mp h
  show l.1 + q_et v l.2 = l.1
  rw [this]
  show l.1 + 0 = l.1
  omega
theorem q_corner {a b b1 b2 : Int} (h1 : b1 ≤ b) (h2 : b ≤ b2) : (a * b1 ≤ a * b ∨ a * b2 ≤ a * b) ∧ (a * b ≤ a * b1 ∨ a * b ≤ a * b2) := by
  rcases Int.le_total 0 a with h | h
  · exact ⟨Or.inl (Int.mul_le_mul_of_nonneg_left h1 h), Or.inr (Int.mul_le_mul_of_nonneg_left h2 h)⟩
  · exact ⟨Or.inr (Int.mul_le_mul_of_nonpos_left h h2), Or.inl (Int.mul_le_mul_of_nonpos_left h h1)⟩
theorem q_imul_ok : q_arok S X0 X m q_imul (fun _ => True) (· * ·) := by
  intro x y k w v a b h hw hx hy
  refine ⟨trivial, ?_⟩
  show q_out S X0 X m v w k (a * b).toInt
  have e : q_MIN ≤ a.toInt * b.toInt → a.toInt * b.toInt ≤ q_MAX → (a * b).toInt = a.toInt * b.toInt := fun h1 h2 => by rw [Int32.toInt_mul, q_bm h1 h2]
  unfold q_imul at h
  rcases q_if_iff.mp h with ⟨h1, h2⟩ | ⟨_, h2⟩
  · have hc := q_const h1 v
    rw [hx.at] at hc
    rw [← hc] at h2
    exact q_res_ok h2 hw (hy.sc a.toInt) e
  · rcases q_if_iff.mp h2 with ⟨h1, h2⟩ | ⟨_, h2⟩
    · have hc := q_const h1 v
      rw [hy.at] at hc
      rw [← hc] at h2
      exact q_res_ok h2 hw (hx.sc b.toInt) fun g1 g2 => by rw [Int.mul_comm] at g1 g2 ⊢; exact e g1 g2
    · rw [q_cw_eq] at h2
      obtain ⟨a1, a2, l1, l2, h3⟩ := hw.rng hx h2
      obtain ⟨b1, b2, m1, m2, h4⟩ := hw.rng hy h3
      rw [q_fi_eq, q_fi_eq] at h4
      have lo : q_mn (q_mn (Int.mul a1 b1) (Int.mul a1 b2)) (q_mn (Int.mul a2 b1) (Int.mul a2 b2)) ≤ a.toInt * b.toInt := by
        have e1 := q_mn_le (q_mn (Int.mul a1 b1) (Int.mul a1 b2)) (q_mn (Int.mul a2 b1) (Int.mul a2 b2))
        have e2 : q_mn (Int.mul a1 b1) (Int.mul a1 b2) ≤ a1 * b1 ∧ q_mn (Int.mul a1 b1) (Int.mul a1 b2) ≤ a1 * b2 := q_mn_le _ _
        have e3 : q_mn (Int.mul a2 b1) (Int.mul a2 b2) ≤ a2 * b1 ∧ q_mn (Int.mul a2 b1) (Int.mul a2 b2) ≤ a2 * b2 := q_mn_le _ _
        have c1 := (q_corner (a := a.toInt) m1 m2).1
        have c2 := (q_corner (a := b1) l1 l2).1
        have c3 := (q_corner (a := b2) l1 l2).1
        rw [Int.mul_comm b1 a1, Int.mul_comm b1 a.toInt, Int.mul_comm b1 a2] at c2
        rw [Int.mul_comm b2 a1, Int.mul_comm b2 a.toInt, Int.mul_comm b2 a2] at c3
        omega
      have hi : a.toInt * b.toInt ≤ q_mx (q_mx (Int.mul a1 b1) (Int.mul a1 b2)) (q_mx (Int.mul a2 b1) (Int.mul a2 b2)) := by
        have e1 := q_mx_le (q_mx (Int.mul a1 b1) (Int.mul a1 b2)) (q_mx (Int.mul a2 b1) (Int.mul a2 b2))
        have e2 : a1 * b1 ≤ q_mx (Int.mul a1 b1) (Int.mul a1 b2) ∧ a1 * b2 ≤ q_mx (Int.mul a1 b1) (Int.mul a1 b2) := q_mx_le _ _
        have e3 : a2 * b1 ≤ q_mx (Int.mul a2 b1) (Int.mul a2 b2) ∧ a2 * b2 ≤ q_mx (Int.mul a2 b1) (Int.mul a2 b2) := q_mx_le _ _
        have c1 := (q_corner (a := a.toInt) m1 m2).2
        have c2 := (q_corner (a := b1) l1 l2).2
        have c3 := (q_corner (a := b2) l1 l2).2
        rw [Int.mul_comm b1 a1, Int.mul_comm b1 a.toInt, Int.mul_comm b1 a2] at c2
        rw [Int.mul_comm b2 a1, Int.mul_comm b2 a.toInt, Int.mul_comm b2 a2] at c3
        omega
      rcases q_if_iff.mp h4 with ⟨h5, h6⟩ | ⟨_, h6⟩
      · obtain ⟨h7, h8⟩ := q_and_iff.mp h5
        have g1 := q_le_ok.mp h7
        have g2 := q_le_ok.mp h8
        rw [e (Int.le_trans g1 lo) (Int.le_trans hi g2)]
        exact q_fr0_ok h6 hw lo hi
      · exact q_any0_ok h6 hw _
/-! division -/
theorem q_quo_et (d : Int) (v : Nat → Int) (ts : List (Nat × Int)) : q_et v ts = d * q_et v (q_mul d ts) + q_et v (q_rst d ts) := by
  induction ts with
  | nil => show (0 : Int) = d * 0 + 0; omega
  | cons q t ih =>
    show q.2 * v q.1 + q_et v t = d * q_et v (z_if (q_is0 (Int.emod q.2 d)) ((q.1, Int.ediv q.2 d) :: q_mul d t) (q_mul d t)) + q_et v (z_if (q_is0 (Int.emod q.2 d)) (q_rst d t) (q :: q_rst d t))
    cases h : q_is0 (Int.emod q.2 d) with
    | true =>
      have h0 : q.2 % d = 0 := q_is0_ok h
      have h1 : q.2 = d * (q.2 / d) := by
        have := Int.mul_ediv_add_emod q.2 d
        omega
      show q.2 * v q.1 + q_et v t = d * ((q.2 / d) * v q.1 + q_et v (q_mul d t)) + q_et v (q_rst d t)
      rw [ih, Int.mul_add, ← Int.mul_assoc, ← h1]
      omega
    | false =>
      show q.2 * v q.1 + q_et v t = d * q_et v (q_mul d t) + (q.2 * v q.1 + q_et v (q_rst d t))
      rw [ih]
      omega
theorem q_quo_ev (d : Int) (v : Nat → Int) (x : qL) : q_ev v x = d * q_ev v (q_quo x d) + q_ev v (q_rem x d) := by
  show x.1 + q_et v x.2 = d * (x.1 / d + q_et v (q_mul d x.2)) + (x.1 % d + q_et v (q_rst d x.2))
  have h := q_quo_et d v x.2
  have h2 := Int.mul_ediv_add_emod x.1 d
  rw [Int.mul_add]
  omega
theorem q_tdiv {X Y : Int} (hY : 1 ≤ Y) (h1 : q_MIN ≤ X) (h2 : X ≤ q_MAX) : (0 ≤ X → 0 ≤ X.tdiv Y * Y ∧ X.tdiv Y * Y ≤ X ∧ X - X.tdiv Y * Y < Y ∧ 0 ≤ X.tdiv Y ∧ X.tdiv Y = X / Y) ∧ (X ≤ 0 → X ≤ X.tdiv Y * Y ∧ X.tdiv Y * Y ≤ 0 ∧ -Y < X - X.tdiv Y * Y ∧ X ≤ X.tdiv Y ∧ X.tdiv Y ≤ 0) := by
  have pos : ∀ Z : Int, 0 ≤ Z → 0 ≤ Z.tdiv Y * Y ∧ Z.tdiv Y * Y ≤ Z ∧ Z - Z.tdiv Y * Y < Y ∧ 0 ≤ Z.tdiv Y ∧ Z.tdiv Y = Z / Y ∧ Z.tdiv Y ≤ Z := fun Z hZ => by
    rw [Int.tdiv_eq_ediv_of_nonneg hZ]
    have a1 := Int.mul_ediv_add_emod Z Y
    have a2 := Int.emod_nonneg Z (show Y ≠ 0 by omega)
    have a3 := Int.emod_lt_of_pos Z (show 0 < Y by omega)
    have a4 : 0 ≤ Z / Y := Int.ediv_nonneg hZ (by omega)
    have a5 := Int.ediv_le_self Y hZ
    rw [Int.mul_comm] at a1
    have a6 : 0 ≤ Z / Y * Y := Int.mul_nonneg a4 (by omega)
    refine ⟨a6, by omega, by omega, a4, rfl, a5⟩
  refine ⟨fun h => ?_, fun h => ?_⟩
  · obtain ⟨a, b, c, d, e, _⟩ := pos X h
    exact ⟨a, b, c, d, e⟩
  · obtain ⟨a, b, c, d, _, f⟩ := pos (-X) (by omega)
    rw [Int.neg_tdiv, Int.neg_mul] at a b c
    rw [Int.neg_tdiv] at d f
    refine ⟨by omega, by omega, by omega, by omega, by omega⟩
theorem q_idiv_val {a b : Int32} (hb : 1 ≤ b.toInt) : (a / b).toInt = a.toInt.tdiv b.toInt ∧ (a - a / b * b).toInt = a.toInt - a.toInt.tdiv b.toInt * b.toInt := by
  have ra := q_i32 a
  have r1 : -2147483648 ≤ a.toInt := ra.1
  have r2 : a.toInt ≤ 2147483647 := ra.2
  obtain ⟨p1, p2⟩ := q_tdiv (X := a.toInt) hb ra.1 ra.2
  have key : (-2147483648 ≤ a.toInt.tdiv b.toInt ∧ a.toInt.tdiv b.toInt ≤ 2147483647) ∧ (-2147483648 ≤ a.toInt.tdiv b.toInt * b.toInt ∧ a.toInt.tdiv b.toInt * b.toInt ≤ 2147483647) ∧ (-2147483648 ≤ a.toInt - a.toInt.tdiv b.toInt * b.toInt ∧ a.toInt - a.toInt.tdiv b.toInt * b.toInt ≤ 2147483647) := by
    rcases Int.le_total 0 a.toInt with h | h
    · obtain ⟨c1, c2, c3, c4, c5⟩ := p1 h
      have c6 := Int.ediv_le_self b.toInt h
      rw [← c5] at c6
      refine ⟨⟨by omega, by omega⟩, ⟨by omega, by omega⟩, by omega, by omega⟩
    · obtain ⟨c1, c2, c3, c4, c5⟩ := p2 h
      refine ⟨⟨by omega, by omega⟩, ⟨by omega, by omega⟩, by omega, by omega⟩
  obtain ⟨⟨k1, k2⟩, ⟨k3, k4⟩, k5, k6⟩ := key
  have d1 : (a / b).toInt = a.toInt.tdiv b.toInt := by rw [Int32.toInt_div, q_bm k1 k2]
  have d2 : (a / b * b).toInt = a.toInt.tdiv b.toInt * b.toInt := by rw [Int32.toInt_mul, d1, q_bm k3 k4]
  exact ⟨d1, by rw [Int32.toInt_sub, d2, q_bm k5 k6]⟩
theorem q_div_ok (is : Bool) : q_arok S X0 X m (q_div is) (fun b => b.toInt ≠ 0) (fun a b => z_if is (a - a / b * b) (a / b)) := by
  intro x y k w v a b h hw hx hy
  unfold q_div at h
  rw [q_cw_eq] at h
  have i0 : (Int.ofNat 0 : Int) = 0 := rfl
  have i1 : (Int.ofNat 1 : Int) = 1 := rfl
  have im : (Int.negSucc 0 : Int) = -1 := rfl
  have is1 : ∀ a b : Int, Int.sub a b = a - b := fun _ _ => rfl
  obtain ⟨y1, g1, g2⟩ := q_ob_iff.mp (show q_ob (q_lo w.2.1 y) _ = true from h)
  obtain ⟨y2, g3, g4⟩ := q_ob_iff.mp g2
  rw [q_fi_eq, q_fi_eq] at g4
  have l1 := q_lo_ok hw.b g1
  have l2 := q_hi_ok hw.b g3
  rw [hy.at] at l1 l2
  obtain ⟨h2, h3⟩ := q_and_iff.mp g4
  have hb : b.toInt ≠ 0 := by
    rcases q_or_iff.mp h2 with h4 | h4
    · have := q_le_ok.mp h4
      omega
    · have := q_le_ok.mp h4
      omega
  refine ⟨hb, ?_⟩
  show q_out S X0 X m v w k (z_if is (a - a / b * b) (a / b)).toInt
  have r1 : -2147483648 ≤ a.toInt := (q_i32 a).1
  have r2 : a.toInt ≤ 2147483647 := (q_i32 a).2
  rcases q_if_iff.mp h3 with ⟨h4, h5⟩ | ⟨_, h5⟩
  · simp only [q_and_iff] at h4
    obtain ⟨c1, c2, c3, c4, c5⟩ := h4
    have hy1 : 1 ≤ y1 := q_le_ok.mp c2
    have e1 : y.1 = y1 := by
      have hn := q_nil_iff.mp c1
      have g1' : q_lot w.2.1 y.2 y.1 = some y1 := g1
      rw [hn] at g1'
      exact Option.some.inj g1'
    have hb1 : b.toInt = y1 := by
      have e2 := q_const c1 v
      rw [hy.at] at e2
      omega
    have dq : q_den w.1 v (q_quo x y1) (q_ev v (q_quo x y1)) ∧ q_den w.1 v (q_rem x y1) (q_ev v (q_rem x y1)) := by
      refine ⟨fun v' hv => ?_, fun v' hv => ?_⟩
      all_goals
        have e3 := q_quo_ev y1 v x
        have e4 := q_quo_ev y1 v' x
        rw [hx.at] at e3
        rw [hx v' hv] at e4
        have hb' := (hw v' hv).1
        have n1 := q_ge0_ok hw.b c3
        have n2 := q_ge0_ok hw.b c4
        have n3 := q_ge0_ok hb' c3
        have n4 := q_ge0_ok hb' c4
        rw [q_ev_pl, q_ev_ng, is1, i1] at n2 n4
        have u1 := (Int.ediv_emod_unique (a := a.toInt) (r := q_ev v (q_rem x y1)) (q := q_ev v (q_quo x y1)) (show 0 < y1 by omega)).mpr ⟨by omega, by omega, by omega⟩
        have u2 := (Int.ediv_emod_unique (a := a.toInt) (r := q_ev v' (q_rem x y1)) (q := q_ev v' (q_quo x y1)) (show 0 < y1 by omega)).mpr ⟨by omega, by omega, by omega⟩
        omega
    have e3 := q_quo_ev y1 v x
    rw [hx.at] at e3
    have n1 := hw.ge dq.2 c3
    have n2 := hw.ge (dq.2.ng.pl _) c4
    rw [is1, i1] at n2
    have n5 := hw.ge dq.1 c5
    have pa : 0 ≤ y1 * q_ev v (q_quo x y1) := Int.mul_nonneg (by omega) n5
    have ha : 0 ≤ a.toInt := by omega
    obtain ⟨u1, u2⟩ := (Int.ediv_emod_unique (a := a.toInt) (r := q_ev v (q_rem x y1)) (q := q_ev v (q_quo x y1)) (show 0 < y1 by omega)).mpr ⟨by omega, by omega, by omega⟩
    obtain ⟨v1, v2⟩ := q_idiv_val (a := a) (b := b) (by omega)
    have t1 : a.toInt.tdiv b.toInt = q_ev v (q_quo x y1) := by rw [hb1, Int.tdiv_eq_ediv_of_nonneg ha, u1]
    cases is with
    | true =>
      have h5 : q_fl (q_rem x y1) (fun l => k w l) = true := h5
      rw [q_fl_eq] at h5
      have t2 : (a - a / b * b).toInt = q_ev v (q_rem x y1) := by
        rw [v2, t1, hb1, Int.mul_comm]
        omega
      show q_out S X0 X m v w k (a - a / b * b).toInt
      rw [t2]
      exact q_out.now h5 hw dq.2
    | false =>
      have h5 : q_fl (q_quo x y1) (fun l => k w l) = true := h5
      rw [q_fl_eq] at h5
      show q_out S X0 X m v w k (a / b).toInt
      rw [v1, t1]
      exact q_out.now h5 hw dq.1
  · obtain ⟨x1, x2, m1, m2, h6⟩ := hw.rng hx h5
    rcases q_if_iff.mp h6 with ⟨h7, h8⟩ | ⟨_, h8⟩
    · have hy1 : 1 ≤ y1 := q_le_ok.mp h7
      obtain ⟨v1, v2⟩ := q_idiv_val (a := a) (b := b) (by omega)
      obtain ⟨p1, p2⟩ := q_tdiv (X := a.toInt) (Y := b.toInt) (by omega) r1 r2
      cases is with
      | true =>
        show q_out S X0 X m v w k (a - a / b * b).toInt
        have mk : ∀ z : Int, z < b.toInt → ∀ v', q_agr w.1 v v' → v' w.1 = z → ∀ c ∈ (z_if (z_nil y.2) ([] : List qL) [q_sub (q_pl y (Int.negSucc 0)) (q_v w.1)]), 0 ≤ q_ev v' c := by
          intro z hz v' hv hn c hc
          cases hz2 : z_nil y.2 with
          | true => rw [hz2] at hc; cases hc
          | false =>
            rw [hz2] at hc
            have hc : c ∈ [q_sub (q_pl y (Int.negSucc 0)) (q_v w.1)] := hc
            rw [List.mem_singleton.mp hc, q_ev_sub, q_ev_pl, q_ev_v, hn, hy v' hv, im]
            omega
        have h8 : z_if (q_le (Int.ofNat 0) x1) (q_fi (q_mn x2 (Int.sub y2 (Int.ofNat 1))) fun hi => q_fr (Int.ofNat 0) hi (fun l => z_if (z_nil y.2) [] [q_sub (q_pl y (Int.negSucc 0)) l]) k w) (q_fi (Int.sub (Int.ofNat 1) y2) fun lo => q_fi (Int.sub y2 (Int.ofNat 1)) fun hi => q_fr lo hi (fun l => z_if (z_nil y.2) [] [q_sub (q_pl y (Int.negSucc 0)) l]) k w) = true := h8
        rw [q_fi_eq, q_fi_eq, q_fi_eq] at h8
        rcases q_if_iff.mp h8 with ⟨h9, h10⟩ | ⟨_, h10⟩
        · have hx0 : 0 ≤ x1 := q_le_ok.mp h9
          obtain ⟨c1, c2, c3, c4, c5⟩ := p1 (by omega)
          refine q_fr_ok h10 hw (by rw [v2, i0]; omega) ?_ (mk _ (by rw [v2]; omega))
          rw [v2]
          exact q_mn_ge (by omega) (by rw [is1, i1]; omega)
        · have rb : -b.toInt < a.toInt - a.toInt.tdiv b.toInt * b.toInt ∧ a.toInt - a.toInt.tdiv b.toInt * b.toInt < b.toInt := by
            rcases Int.le_total 0 a.toInt with hh | hh
            · obtain ⟨c1, c2, c3, c4, c5⟩ := p1 hh
              omega
            · obtain ⟨c1, c2, c3, c4, c5⟩ := p2 hh
              omega
          exact q_fr_ok h10 hw (by rw [v2, is1, i1]; omega) (by rw [v2, is1, i1]; omega) (mk _ (by rw [v2]; omega))
      | false =>
        show q_out S X0 X m v w k (a / b).toInt
        have h8 : z_if (q_le (Int.ofNat 0) x1) (q_fi (Int.ediv x1 y2) fun lo => q_fi (Int.ediv x2 y1) fun hi => q_fr lo hi (fun _ => []) k w) (q_any0 k w) = true := h8
        rw [q_fi_eq, q_fi_eq] at h8
        rcases q_if_iff.mp h8 with ⟨h9, h10⟩ | ⟨_, h10⟩
        · have hx0 : 0 ≤ x1 := q_le_ok.mp h9
          obtain ⟨c1, c2, c3, c4, c5⟩ := p1 (by omega)
          have f1 : Int.ediv x1 y2 = x1 / y2 := rfl
          have f2 : Int.ediv x2 y1 = x2 / y1 := rfl
          refine q_fr0_ok h10 hw ?_ ?_
          · rw [v1, c5, f1]
            refine (Int.le_ediv_iff_mul_le (show 0 < b.toInt by omega)).mpr ?_
            have d1 : 0 ≤ x1 / y2 := Int.ediv_nonneg hx0 (by omega)
            have d2 := Int.mul_le_mul_of_nonneg_left l2 d1
            have d3 := Int.ediv_mul_le x1 (show y2 ≠ 0 by omega)
            omega
          · rw [v1, f2]
            refine (Int.le_ediv_iff_mul_le (show 0 < y1 by omega)).mpr ?_
            have d2 := Int.mul_le_mul_of_nonneg_left l1 c4
            omega
        · exact q_any0_ok h10 hw _
    · exact q_any0_ok h8 hw _
/-! bits -/
theorem q_and_le {a b : Int32} (h : 0 ≤ b.toInt) : 0 ≤ (a &&& b).toInt ∧ (a &&& b).toInt ≤ b.toInt := by
  obtain ⟨h1, h2⟩ := q_nat h
  have h3 : (a &&& b).toBitVec.toNat ≤ b.toBitVec.toNat := by
    show (a.toBitVec &&& b.toBitVec).toNat ≤ _
    rw [BitVec.toNat_and]
    exact Nat.and_le_right
  have h4 := q_natof (x := a &&& b) (by omega)
  omega
theorem q_and_comm (a b : Int32) : a &&& b = b &&& a := Int32.and_comm a b
theorem q_and_mask {a b : Int32} (n : Nat) (hn : n < 31) (hb : b.toInt = ((2 ^ n - 1 : Nat) : Int)) (h0 : 0 ≤ a.toInt) (h1 : a.toInt ≤ b.toInt) : (a &&& b).toInt = a.toInt := by
  have hp : 0 < 2 ^ n := Nat.two_pow_pos n
  obtain ⟨b1, b2⟩ := q_nat (x := b) (by omega)
  obtain ⟨a1, a2⟩ := q_nat h0
  have e : b.toBitVec.toNat = 2 ^ n - 1 := by omega
  have h3 : (a &&& b).toBitVec.toNat = a.toBitVec.toNat := by
    show (a.toBitVec &&& b.toBitVec).toNat = _
    rw [BitVec.toNat_and, e]
    exact Nat.and_two_pow_sub_one_of_lt_two_pow (by omega)
  have h4 := q_natof (x := a &&& b) (by omega)
  omega
theorem q_iand_ok : q_arok S X0 X m q_iand (fun _ => True) (· &&& ·) := by
  intro x y k w v a b h hw hx hy
  refine ⟨trivial, ?_⟩
  show q_out S X0 X m v w k (a &&& b).toInt
  unfold q_iand at h
  rw [q_cw_eq] at h
  have i0 : (Int.ofNat 0 : Int) = 0 := rfl
  have is1 : ∀ a b : Int, Int.sub a b = a - b := fun _ _ => rfl
  have dc : ∀ {l : qL} {z : Int} {u : Int}, q_den w.1 v l z → u ≤ z → ∀ v', q_agr w.1 v v' → v' w.1 = u → 0 ≤ q_ev v' (q_sub l (q_v w.1)) := fun hl hu v' hv hn => by
    rw [q_ev_sub, q_ev_v, hl v' hv, hn]
    omega
  obtain ⟨x1, x2, l1, l2, h1⟩ := hw.rng hx h
  obtain ⟨y1, g1, g2⟩ := q_ob_iff.mp (show q_ob (q_lo w.2.1 y) _ = true from h1)
  obtain ⟨y2, g3, g4⟩ := q_ob_iff.mp g2
  rw [q_fi_eq, q_fi_eq] at g4
  have m1 := q_lo_ok hw.b g1
  have m2 := q_hi_ok hw.b g3
  rw [hy.at] at m1 m2
  rcases q_if_iff.mp g4 with ⟨h3, h4⟩ | ⟨_, h4⟩
  · have hy0 : 0 ≤ y1 := q_le_ok.mp h3
    obtain ⟨r1, r2⟩ := q_and_le (a := a) (b := b) (by omega)
    rcases q_if_iff.mp h4 with ⟨h5, h6⟩ | ⟨_, h6⟩
    · have hx0 : 0 ≤ x1 := q_le_ok.mp h5
      obtain ⟨r3, r4⟩ := q_and_le (a := b) (b := a) (by omega)
      rw [q_and_comm] at r3 r4
      rcases q_if_iff.mp h6 with ⟨h7, h8⟩ | ⟨_, h8⟩
      · simp only [q_and_iff, q_or_iff] at h7
        obtain ⟨c1, c2, c3⟩ := h7
        have e1 : y.1 = y1 := by
          have hn := q_nil_iff.mp c1
          have g1' : q_lot w.2.1 y.2 y.1 = some y1 := g1
          rw [hn] at g1'
          exact Option.some.inj g1'
        have e2 := q_const c1 v
        rw [hy.at] at e2
        have c2' := q_le_ok.mp c2
        have e5 : (a &&& b).toInt = a.toInt := by
          rcases c3 with c3 | c3 | c3
          · have c4 := q_is0_ok c3
            rw [is1] at c4
            have c5 : (Int.ofNat 255 : Int) = 255 := rfl
            exact q_and_mask 8 (by omega) (by show b.toInt = 255; omega) (by omega) (by omega)
          · have c4 := q_is0_ok c3
            rw [is1] at c4
            have c5 : (Int.ofNat 63 : Int) = 63 := rfl
            exact q_and_mask 6 (by omega) (by show b.toInt = 63; omega) (by omega) (by omega)
          · have c4 := q_is0_ok c3
            rw [is1] at c4
            have c5 : (Int.ofNat 65535 : Int) = 65535 := rfl
            exact q_and_mask 16 (by omega) (by show b.toInt = 65535; omega) (by omega) (by omega)
        rw [e5]
        exact q_out.now h8 hw hx
      · rw [q_fi_eq] at h8
        refine q_fr_ok h8 hw (by rw [i0]; omega) (q_mn_ge (by omega) (by omega)) (fun v' hv hn c hc => ?_)
        rcases List.mem_cons.mp hc with e | e
        · rw [e]; exact dc hx r4 v' hv hn
        · rw [List.mem_singleton.mp e]; exact dc hy r2 v' hv hn
    · refine q_fr_ok h6 hw (by rw [i0]; omega) (by omega) (fun v' hv hn c hc => ?_)
      rw [List.mem_singleton.mp hc]; exact dc hy r2 v' hv hn
  · rcases q_if_iff.mp h4 with ⟨h5, h6⟩ | ⟨_, h6⟩
    · have hx0 : 0 ≤ x1 := q_le_ok.mp h5
      obtain ⟨r3, r4⟩ := q_and_le (a := b) (b := a) (by omega)
      rw [q_and_comm] at r3 r4
      refine q_fr_ok h6 hw (by rw [i0]; omega) (by omega) (fun v' hv hn c hc => ?_)
      rw [List.mem_singleton.mp hc]; exact dc hx r4 v' hv hn
    · exact q_any0_ok h6 hw _
theorem q_and_neg {a b : Int32} (hb : b.toInt = 255) (h0 : a.toInt < 0) (h1 : -256 ≤ a.toInt) : (a &&& b).toInt = a.toInt + 256 := by
  obtain ⟨b1, b2⟩ := q_nat (x := b) (by omega)
  have a1 := q_natneg h0
  have e : b.toBitVec.toNat = 2 ^ 8 - 1 := by show b.toBitVec.toNat = 255; omega
  have h3 : (a &&& b).toBitVec.toNat = a.toBitVec.toNat % 2 ^ 8 := by
    show (a.toBitVec &&& b.toBitVec).toNat = _
    rw [BitVec.toNat_and, e, Nat.and_two_pow_sub_one_eq_mod]
  have e256 : 2 ^ 8 = 256 := rfl
  rw [e256] at h3
  have h4 := q_natof (x := a &&& b) (by omega)
  omega
theorem q_iand2_ok : q_arok S X0 X m q_iand2 (fun _ => True) (· &&& ·) := by
  intro x y k w v a b h hw hx hy
  unfold q_iand2 at h
  rw [q_cw_eq] at h
  obtain ⟨x1, x2, l1, l2, h1⟩ := hw.rng hx h
  rcases q_if_iff.mp h1 with ⟨h3, h4⟩ | ⟨_, h4⟩
  · simp only [q_and_iff] at h3
    obtain ⟨c1, c2, c3, c4, c5⟩ := h3
    refine ⟨trivial, ?_⟩
    show q_out S X0 X m v w k (a &&& b).toInt
    have is1 : ∀ a b : Int, Int.sub a b = a - b := fun _ _ => rfl
    have im : (Int.negSucc 0 : Int) = -1 := rfl
    have i255 : (Int.ofNat 255 : Int) = 255 := rfl
    have i256 : (Int.ofNat 256 : Int) = 256 := rfl
    have im256 : (Int.negSucc 255 : Int) = -256 := rfl
    have e2 := q_const c1 v
    rw [hy.at] at e2
    have c6 := q_is0_ok c2
    rw [is1, i255] at c6
    have c7 := q_le_ok.mp c4
    have c8 := q_le_ok.mp c5
    rw [im256] at c7
    rw [i255] at c8
    obtain ⟨h5, h6⟩ := q_and_iff.mp h4
    rcases Int.lt_or_le a.toInt 0 with hn | hn
    · obtain ⟨w', k1, k2, k3⟩ := q_asm1_ok h6 hw (hx.ng.pl _) (by rw [im]; omega)
      rw [q_fl_eq] at k1
      have e3 := q_and_neg (a := a) (b := b) (by omega) hn (by omega)
      refine ⟨w', _, v, k1, ⟨by omega, q_agr.refl _ _⟩, k3, ?_⟩
      rw [k2, e3]
      have := hx.pl (Int.ofNat 256)
      rwa [i256] at this
    · obtain ⟨w', k1, k2, k3⟩ := q_asm1_ok h5 hw hx hn
      have e3 := q_and_mask (a := a) (b := b) 8 (by omega) (by show b.toInt = 255; omega) hn (by omega)
      refine ⟨w', x, v, k1, ⟨by omega, q_agr.refl _ _⟩, k3, ?_⟩
      rw [k2, e3]
      exact hx
  · exact q_iand_ok h4 hw hx hy
theorem q_ior_ok : q_arok S X0 X m q_ior (fun _ => True) (· ||| ·) := by
  intro x y k w v a b h hw hx hy
  refine ⟨trivial, ?_⟩
  show q_out S X0 X m v w k (a ||| b).toInt
  unfold q_ior at h
  rw [q_cw_eq] at h
  obtain ⟨x1, x2, l1, l2, h1⟩ := hw.rng hx h
  obtain ⟨y1, y2, m1, m2, h2⟩ := hw.rng hy h1
  rcases q_if_iff.mp h2 with ⟨h3, h4⟩ | ⟨_, h4⟩
  · obtain ⟨h5, h6⟩ := q_and_iff.mp h3
    have hx0 : 0 ≤ x1 := q_le_ok.mp h5
    have hy0 : 0 ≤ y1 := q_le_ok.mp h6
    rw [q_fi_eq, q_fi_eq] at h4
    rcases q_if_iff.mp h4 with ⟨h7, h8⟩ | ⟨_, h8⟩
    · obtain ⟨u1, u2⟩ := q_mx_le x2 y2
      obtain ⟨a1, a2⟩ := q_nat (x := a) (by omega)
      obtain ⟨b1, b2⟩ := q_nat (x := b) (by omega)
      have hl := @Nat.lt_log2_self (q_mx x2 y2).toNat
      have h7 := q_le_ok.mp h7
      have hp : (Int.ofNat (Nat.pow 2 (Nat.succ (Nat.log2 (Int.toNat (q_mx x2 y2))))) : Int) = ((2 ^ ((q_mx x2 y2).toNat.log2 + 1) : Nat) : Int) := rfl
      have is1 : ∀ a b : Int, Int.sub a b = a - b := fun _ _ => rfl
      have i0 : (Int.ofNat 0 : Int) = 0 := rfl
      have i1 : (Int.ofNat 1 : Int) = 1 := rfl
      rw [hp, is1, i1] at h7 h8
      have hm : q_MAX = 2147483647 := rfl
      rw [hm] at h7
      have h9 : (a ||| b).toBitVec.toNat < 2 ^ ((q_mx x2 y2).toNat.log2 + 1) := by
        show (a.toBitVec ||| b.toBitVec).toNat < _
        rw [BitVec.toNat_or]
        exact Nat.or_lt_two_pow (by omega) (by omega)
      have h10 := q_natof (x := a ||| b) (by omega)
      exact q_fr0_ok h8 hw (by rw [i0]; omega) (by omega)
    · exact q_any0_ok h8 hw _
  · exact q_any0_ok h4 hw _
theorem q_shl1 : ∀ n, n < 31 → ((1 : Int32) <<< (Int32.ofNat n &&& 31)).toInt = ((2 ^ n : Nat) : Int) := by decide +kernel
theorem q_ishl_ok : q_arok S X0 X m q_ishl (fun _ => True) (fun x y => x <<< (y &&& 31)) := by
  intro x y k w v a b h hw hx hy
  refine ⟨trivial, ?_⟩
  show q_out S X0 X m v w k (a <<< (b &&& 31)).toInt
  unfold q_ishl at h
  rw [q_cw_eq] at h
  obtain ⟨y1, y2, m1, m2, h2⟩ := hw.rng hy h
  rcases q_if_iff.mp h2 with ⟨h3, h4⟩ | ⟨_, h4⟩
  · simp only [q_and_iff] at h3
    obtain ⟨c1, c2, c3, c4⟩ := h3
    have hy0 : 0 ≤ y1 := q_le_ok.mp c3
    have hy3 : y2 ≤ 30 := q_le_ok.mp c4
    have is1 : ∀ a b : Int, Int.sub a b = a - b := fun _ _ => rfl
    have i1 : (Int.ofNat 1 : Int) = 1 := rfl
    have e2 := q_const c1 v
    rw [hx.at] at e2
    have c6 := q_is0_ok c2
    rw [is1, i1] at c6
    have ha : a = 1 := Int32.toInt_inj.mp (by show a.toInt = 1; omega)
    obtain ⟨b1, b2⟩ := q_nat (x := b) (by omega)
    have hb : b = Int32.ofNat b.toBitVec.toNat := (z_ofN b).symm
    have e3 := q_shl1 b.toBitVec.toNat (by omega)
    rw [← hb, ← ha] at e3
    rw [q_fi_eq, q_fi_eq] at h4
    refine q_fr0_ok h4 hw ?_ ?_
    · rw [e3]
      exact Int.ofNat_le.mpr (Nat.pow_le_pow_right (by omega) (by omega))
    · rw [e3]
      exact Int.ofNat_le.mpr (Nat.pow_le_pow_right (by omega) (by omega))
  · exact q_any0_ok h4 hw _
theorem q_ishr_ok : q_arok S X0 X m q_ishr (fun _ => True) (fun x y => x >>> (y &&& 31)) := by
  intro x y k w v a b h hw hx hy
  refine ⟨trivial, ?_⟩
  show q_out S X0 X m v w k (a >>> (b &&& 31)).toInt
  unfold q_ishr at h
  rw [q_cw_eq] at h
  obtain ⟨x1, x2, l1, l2, h1⟩ := hw.rng hx h
  obtain ⟨y1, y2, m1, m2, h2⟩ := hw.rng hy h1
  rcases q_if_iff.mp h2 with ⟨h3, h4⟩ | ⟨_, h4⟩
  · obtain ⟨h5, h6⟩ := q_and_iff.mp h3
    have hx0 : 0 ≤ x1 := q_le_ok.mp h5
    have i0 : (Int.ofNat 0 : Int) = 0 := rfl
    have e : ∃ s : BitVec 32, (a >>> (b &&& 31)).toInt = (a.toBitVec.sshiftRight' s).toInt := ⟨_, rfl⟩
    obtain ⟨s, e⟩ := e
    rw [BitVec.toInt_sshiftRight', Int.shiftRight_eq_div_pow] at e
    have e2 : a.toBitVec.toInt = a.toInt := rfl
    rw [e2] at e
    have g1 : 0 ≤ a.toInt / ((2 ^ s.toNat : Nat) : Int) := Int.ediv_nonneg (by omega) (Int.natCast_nonneg _)
    have g2 := Int.ediv_le_self (((2 ^ s.toNat : Nat)) : Int) (show 0 ≤ a.toInt by omega)
    refine q_fr0_ok h4 hw ?_ ?_
    · rw [i0, e]; exact g1
    · rw [e]; exact Int.le_trans g2 l2
  · exact q_any0_ok h4 hw _
/-! an operation of one int -/
theorem q_ineg_ok {x : qL} {k : qW → qL → Bool} {a : Int32} (h : q_ineg x k w = true) (hw : q_wg S X0 m v w X) (hx : q_den w.1 v x a.toInt) : q_out S X0 X m v w k (-a).toInt :=
  q_res_ok (show q_res (q_ng x) k w = true from h) hw hx.ng fun h1 h2 => by rw [Int32.toInt_neg, q_bm h1 h2]
theorem q_nar_ok {lo hi z : Int} {x : qL} {k : qW → qL → Bool} {a : Int} (h : q_nar lo hi x k w = true) (hw : q_wg S X0 m v w X) (hx : q_den w.1 v x a) (h1 : lo ≤ z) (h2 : z ≤ hi) (he : lo ≤ a → a ≤ hi → z = a) : q_out S X0 X m v w k z := by
  unfold q_nar at h
  rw [q_cw_eq] at h
  rcases q_if_iff.mp h with ⟨h3, h4⟩ | ⟨_, h4⟩
  · obtain ⟨a1, a2⟩ := hw.win hx h3
    rw [he a1 a2]
    exact q_out.now h4 hw hx
  · exact q_fr0_ok h4 hw h1 h2
theorem q_i2b (x : Int32) : (-128 ≤ x.toInt8.toInt32.toInt ∧ x.toInt8.toInt32.toInt ≤ 127) ∧ (-128 ≤ x.toInt → x.toInt ≤ 127 → x.toInt8.toInt32.toInt = x.toInt) := by
  rw [Int8.toInt_toInt32]
  have h1 := Int8.toInt_lt x.toInt8
  have h2 := Int8.le_toInt x.toInt8
  refine ⟨by omega, fun g1 g2 => ?_⟩
  rw [Int32.toInt_toInt8]
  exact Int.bmod_eq_of_le (by show -(((2 ^ 8 : Nat) : Int) / 2) ≤ _; omega) (by show _ < (((2 ^ 8 : Nat) : Int) + 1) / 2; omega)
theorem q_i2c (x : Int32) : (0 ≤ (x.toUInt32 % 65536).toInt32.toInt ∧ (x.toUInt32 % 65536).toInt32.toInt ≤ 65535) ∧ (0 ≤ x.toInt → x.toInt ≤ 65535 → (x.toUInt32 % 65536).toInt32.toInt = x.toInt) := by
  have e : (x.toUInt32 % 65536).toInt32.toBitVec.toNat = x.toBitVec.toNat % 65536 := by
    show (x.toUInt32 % 65536).toBitVec.toNat = _
    rw [UInt32.toBitVec_mod, BitVec.toNat_umod]
    rfl
  have h := q_natof (x := (x.toUInt32 % 65536).toInt32) (by omega)
  refine ⟨by omega, fun g1 g2 => ?_⟩
  obtain ⟨a1, a2⟩ := q_nat g1
  omega
end
