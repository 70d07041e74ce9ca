/-! linear forms over vars with boxes, for the kernel: (constant, [(var, factor)]) -/
abbrev qL : Type := Int × List (Nat × Int)
noncomputable abbrev q_nn (x : Int) : Bool := Int.rec (motive := fun _ => Bool) (fun _ => true) (fun _ => false) x
noncomputable abbrev q_le (a b : Int) : Bool := q_nn (Int.sub b a)
noncomputable abbrev q_is0 (x : Int) : Bool := Int.rec (motive := fun _ => Bool) (fun n => Nat.beq n 0) (fun _ => false) x
noncomputable def q_ins (i : Nat) (k : Int) (ts : List (Nat × Int)) : List (Nat × Int) := List.rec (motive := fun _ => List (Nat × Int)) [(i, k)] (fun q t ih => z_if (Nat.beq (Prod.fst q) i) (z_if (q_is0 (Int.add (Prod.snd q) k)) t ((i, Int.add (Prod.snd q) k) :: t)) (q :: ih)) ts
noncomputable def q_mrg (xs : List (Nat × Int)) : List (Nat × Int) → List (Nat × Int) := List.rec (motive := fun _ => List (Nat × Int) → List (Nat × Int)) (fun ys => ys) (fun q _ ih ys => q_ins (Prod.fst q) (Prod.snd q) (ih ys)) xs
noncomputable def q_sct (k : Int) (xs : List (Nat × Int)) : List (Nat × Int) := List.rec (motive := fun _ => List (Nat × Int)) [] (fun q _ ih => (Prod.fst q, Int.mul k (Prod.snd q)) :: ih) xs
noncomputable def q_add (a b : qL) : qL := (Int.add a.1 b.1, q_mrg a.2 b.2)
noncomputable def q_sc (k : Int) (a : qL) : qL := (Int.mul k a.1, q_sct k a.2)
noncomputable def q_sub (a b : qL) : qL := (Int.sub a.1 b.1, q_mrg (q_sct (Int.negSucc 0) b.2) a.2)
noncomputable def q_pl (a : qL) (k : Int) : qL := (Int.add a.1 k, a.2)
noncomputable def q_ng (a : qL) : qL := (Int.neg a.1, q_sct (Int.negSucc 0) a.2)
def q_c (k : Int) : qL := (k, [])
def q_v (i : Nat) : qL := (Int.ofNat 0, [(i, Int.ofNat 1)])
/-! what they stand for -/
def q_et (v : Nat → Int) : List (Nat × Int) → Int := fun xs => match xs with
  | [] => 0
  | q :: t => q.2 * v q.1 + q_et v t
def q_ev (v : Nat → Int) (l : qL) : Int := l.1 + q_et v l.2
section
variable {v : Nat → Int}
theorem q_nn_ok {x : Int} : q_nn x = true ↔ 0 ≤ x := by
  cases x with
  | ofNat n => exact ⟨fun _ => Int.natCast_nonneg n, fun _ => rfl⟩
  | negSucc n => exact ⟨fun h => (by cases h), fun h => (by omega)⟩
theorem q_le_ok {a b : Int} : q_le a b = true ↔ a ≤ b := by
  show q_nn (b - a) = true ↔ a ≤ b
  rw [q_nn_ok]; omega
theorem q_is0_ok {x : Int} (h : q_is0 x = true) : x = 0 := by
  cases x with
  | ofNat n =>
    have e : n = 0 := Nat.eq_of_beq_eq_true h
    rw [e]; rfl
  | negSucc n => cases h
theorem q_et_ins (i : Nat) (k : Int) (ts : List (Nat × Int)) : q_et v (q_ins i k ts) = k * v i + q_et v ts := by
  induction ts with
  | nil => rfl
  | cons q t ih =>
    show q_et v (z_if (Nat.beq q.1 i) (z_if (q_is0 (Int.add q.2 k)) t ((i, Int.add q.2 k) :: t)) (q :: q_ins i k t)) = _
    cases hb : Nat.beq q.1 i with
    | false =>
      show q.2 * v q.1 + q_et v (q_ins i k t) = k * v i + (q.2 * v q.1 + q_et v t)
      rw [ih]; omega
    | true =>
      have e : q.1 = i := Nat.eq_of_beq_eq_true hb
      cases hz : q_is0 (Int.add q.2 k) with
      | true =>
        have e0 : q.2 + k = 0 := q_is0_ok hz
        have e1 : q.2 = -k := by omega
        show q_et v t = k * v i + (q.2 * v q.1 + q_et v t)
        rw [e, e1, Int.neg_mul]; omega
      | false =>
        show (q.2 + k) * v i + q_et v t = k * v i + (q.2 * v q.1 + q_et v t)
        rw [e, Int.add_mul]; omega
theorem q_et_mrg (xs ys : List (Nat × Int)) : q_et v (q_mrg xs ys) = q_et v xs + q_et v ys := by
  induction xs with
  | nil => show q_et v ys = 0 + q_et v ys; omega
  | cons q t ih =>
    show q_et v (q_ins q.1 q.2 (q_mrg t ys)) = q.2 * v q.1 + q_et v t + q_et v ys
    rw [q_et_ins, ih]; omega
theorem q_et_sct (k : Int) (xs : List (Nat × Int)) : q_et v (q_sct k xs) = k * q_et v xs := by
  induction xs with
  | nil => show (0 : Int) = k * 0; omega
  | cons q t ih =>
    show k * q.2 * v q.1 + q_et v (q_sct k t) = k * (q.2 * v q.1 + q_et v t)
    rw [ih, Int.mul_add, Int.mul_assoc]
theorem q_ev_add (a b : qL) : q_ev v (q_add a b) = q_ev v a + q_ev v b := by
  show a.1 + b.1 + q_et v (q_mrg a.2 b.2) = a.1 + q_et v a.2 + (b.1 + q_et v b.2)
  rw [q_et_mrg]; omega
theorem q_ev_sc (k : Int) (a : qL) : q_ev v (q_sc k a) = k * q_ev v a := by
  show k * a.1 + q_et v (q_sct k a.2) = k * (a.1 + q_et v a.2)
  rw [q_et_sct, Int.mul_add]
theorem q_ev_sub (a b : qL) : q_ev v (q_sub a b) = q_ev v a - q_ev v b := by
  show a.1 - b.1 + q_et v (q_mrg (q_sct (-1) b.2) a.2) = a.1 + q_et v a.2 - (b.1 + q_et v b.2)
  rw [q_et_mrg, q_et_sct]; omega
theorem q_ev_pl (a : qL) (k : Int) : q_ev v (q_pl a k) = q_ev v a + k := by
  show a.1 + k + q_et v a.2 = a.1 + q_et v a.2 + k
  omega
theorem q_ev_ng (a : qL) : q_ev v (q_ng a) = - q_ev v a := by
  show -a.1 + q_et v (q_sct (-1) a.2) = -(a.1 + q_et v a.2)
  rw [q_et_sct]; omega
theorem q_ev_c (k : Int) : q_ev v (q_c k) = k := by show k + 0 = k; omega
theorem q_ev_v (i : Nat) : q_ev v (q_v i) = v i := by show (0 : Int) + (1 * v i + 0) = v i; omega
end
/-! boxes: the newest first; each one holds -/
abbrev qB : Type := List (Nat × Int × Int)
def q_bok (v : Nat → Int) (b : qB) : Prop := ∀ q ∈ b, q.2.1 ≤ v q.1 ∧ v q.1 ≤ q.2.2
noncomputable def q_bx (b : qB) (i : Nat) : Option (Int × Int) := List.rec (motive := fun _ => Option (Int × Int)) none (fun q _ ih => z_if (Nat.beq (Prod.fst q) i) (some (Prod.snd q)) ih) b
/-- the least that the terms can come to -/
noncomputable def q_lot (b : qB) (ts : List (Nat × Int)) : Int → Option Int := List.rec (motive := fun _ => Int → Option Int) (fun acc => some acc) (fun q _ ih acc => z_ob (q_bx b (Prod.fst q)) fun x => ih (Int.add acc (Int.mul (Prod.snd q) (z_if (q_nn (Prod.snd q)) (Prod.fst x) (Prod.snd x))))) ts
noncomputable def q_lo (b : qB) (l : qL) : Option Int := q_lot b l.2 l.1
noncomputable def q_hi (b : qB) (l : qL) : Option Int := z_ob (q_lo b (q_ng l)) fun m => some (Int.neg m)
noncomputable def q_ge0 (b : qB) (l : qL) : Bool := Option.rec (motive := fun _ => Bool) false (fun m => q_nn m) (q_lo b l)
section
variable {v : Nat → Int}
theorem q_bx_ok {b : qB} (hb : q_bok v b) {i : Nat} {x : Int × Int} (h : q_bx b i = some x) : x.1 ≤ v i ∧ v i ≤ x.2 := by
  induction b with
  | nil => cases h
  | cons q t ih =>
    have h' : z_if (Nat.beq q.1 i) (some q.2) (q_bx t i) = some x := h
    cases hq : Nat.beq q.1 i with
    | false =>
      rw [hq] at h'
      exact ih (fun p hp => hb p (List.mem_cons_of_mem _ hp)) h'
    | true =>
      rw [hq] at h'
      have e : q.1 = i := Nat.eq_of_beq_eq_true hq
      have e2 : q.2 = x := Option.some.inj h'
      have := hb q (List.mem_cons_self ..)
      rw [e, e2] at this
      exact this
theorem q_lot_ok {b : qB} (hb : q_bok v b) (ts : List (Nat × Int)) : ∀ {acc m : Int}, q_lot b ts acc = some m → m ≤ acc + q_et v ts := by
  induction ts with
  | nil =>
    intro acc m h
    have e : acc = m := Option.some.inj h
    show m ≤ acc + 0
    omega
  | cons q t ih =>
    intro acc m h
    have h' : z_ob (q_bx b q.1) (fun x => q_lot b t (Int.add acc (Int.mul q.2 (z_if (q_nn q.2) x.1 x.2)))) = some m := h
    cases hx : q_bx b q.1 with
    | none => rw [hx] at h'; cases h'
    | some x =>
      rw [hx] at h'
      have h1 := ih h'
      have h2 := q_bx_ok hb hx
      have h3 : q.2 * (z_if (q_nn q.2) x.1 x.2) ≤ q.2 * v q.1 := by
        cases hn : q_nn q.2 with
        | true => exact Int.mul_le_mul_of_nonneg_left h2.1 (q_nn_ok.1 hn)
        | false =>
          have hneg : q.2 ≤ 0 := by
            have : ¬ 0 ≤ q.2 := fun hh => by rw [q_nn_ok.2 hh] at hn; cases hn
            omega
          exact Int.mul_le_mul_of_nonpos_left hneg h2.2
      show m ≤ acc + (q.2 * v q.1 + q_et v t)
      have h4 : m ≤ acc + q.2 * (z_if (q_nn q.2) x.1 x.2) + q_et v t := h1
      omega
theorem q_lo_ok {b : qB} (hb : q_bok v b) {l : qL} {m : Int} (h : q_lo b l = some m) : m ≤ q_ev v l := q_lot_ok hb l.2 h
theorem q_hi_ok {b : qB} (hb : q_bok v b) {l : qL} {m : Int} (h : q_hi b l = some m) : q_ev v l ≤ m := by
  have h' : z_ob (q_lo b (q_ng l)) (fun m => some (Int.neg m)) = some m := h
  cases hx : q_lo b (q_ng l) with
  | none => rw [hx] at h'; cases h'
  | some x =>
    rw [hx] at h'
    have e : -x = m := Option.some.inj h'
    have h1 := q_lo_ok hb hx
    rw [q_ev_ng] at h1
    omega
theorem q_ge0_ok {b : qB} (hb : q_bok v b) {l : qL} (h : q_ge0 b l = true) : 0 ≤ q_ev v l := by
  have h' : Option.rec (motive := fun _ => Bool) false (fun m => q_nn m) (q_lo b l) = true := h
  cases hx : q_lo b l with
  | none => rw [hx] at h'; cases h'
  | some x =>
    rw [hx] at h'
    have h1 := q_lo_ok hb hx
    have h2 := q_nn_ok.1 h'
    omega
end
/-! what follows from boxes and one constraint, or two -/
noncomputable def q_any {α : Type} (f : α → Bool) (l : List α) : Bool := List.rec (motive := fun _ => Bool) false (fun a _ ih => z_if (f a) true ih) l
noncomputable def q_all {α : Type} (f : α → Bool) (l : List α) : Bool := List.rec (motive := fun _ => Bool) true (fun a _ ih => z_if (f a) ih false) l
/-- 0 ≤ l, by the constraint c: l - c, l - 5c or 5l + 4 - c -/
noncomputable def q_by (b : qB) (l c : qL) : Bool := z_if (q_ge0 b (q_sub l c)) true (z_if (q_ge0 b (q_sub l (q_sc (Int.ofNat 5) c))) true (q_ge0 b (q_sub (q_pl (q_sc (Int.ofNat 5) l) (Int.ofNat 4)) c)))
noncomputable def q_pr (b : qB) (cs : List qL) (l : qL) : Bool := z_if (q_ge0 b l) true (q_any (fun c => q_by b l c) cs)
noncomputable def q_pr2 (b : qB) (cs : List qL) (l : qL) : Bool := z_if (q_pr b cs l) true (q_any (fun c => q_pr b cs (q_sub l c)) cs)
def q_cok (v : Nat → Int) (cs : List qL) : Prop := ∀ c ∈ cs, 0 ≤ q_ev v c
section
variable {v : Nat → Int} {b : qB} {cs : List qL}
theorem z_if_or {x y : Bool} (h : z_if x true y = true) : x = true ∨ y = true := by
  cases x with
  | true => exact Or.inl rfl
  | false => exact Or.inr h
theorem z_if_and {x y : Bool} (h : z_if x y false = true) : x = true ∧ y = true := by
  cases x with
  | true => exact ⟨rfl, h⟩
  | false => cases h
theorem q_any_ok {α : Type} {f : α → Bool} {l : List α} (h : q_any f l = true) : ∃ a ∈ l, f a = true := by
  induction l with
  | nil => cases h
  | cons a t ih =>
    rcases z_if_or (show z_if (f a) true (q_any f t) = true from h) with h1 | h1
    · exact ⟨a, List.mem_cons_self .., h1⟩
    · obtain ⟨x, hx, hf⟩ := ih h1
      exact ⟨x, List.mem_cons_of_mem _ hx, hf⟩
theorem q_all_ok {α : Type} {f : α → Bool} {l : List α} (h : q_all f l = true) : ∀ a ∈ l, f a = true := by
  induction l with
  | nil => intro a ha; cases ha
  | cons a t ih =>
    obtain ⟨h1, h2⟩ := z_if_and (show z_if (f a) (q_all f t) false = true from h)
    intro x hx
    rcases List.mem_cons.1 hx with e | e
    · rw [e]; exact h1
    · exact ih h2 x e
theorem q_by_ok (hb : q_bok v b) {l c : qL} (hc : 0 ≤ q_ev v c) (h : q_by b l c = true) : 0 ≤ q_ev v l := by
  rcases z_if_or h with h1 | h1
  · have := q_ge0_ok hb h1
    rw [q_ev_sub] at this; omega
  · rcases z_if_or h1 with h2 | h2
    · have := q_ge0_ok hb h2
      rw [q_ev_sub, q_ev_sc] at this
      have e : (Int.ofNat 5 : Int) = 5 := rfl
      rw [e] at this; omega
    · have := q_ge0_ok hb h2
      rw [q_ev_sub, q_ev_pl, q_ev_sc] at this
      have e : (Int.ofNat 5 : Int) = 5 := rfl
      have e4 : (Int.ofNat 4 : Int) = 4 := rfl
      rw [e, e4] at this; omega
theorem q_pr_ok (hb : q_bok v b) (hc : q_cok v cs) {l : qL} (h : q_pr b cs l = true) : 0 ≤ q_ev v l := by
  rcases z_if_or h with h1 | h1
  · exact q_ge0_ok hb h1
  · obtain ⟨c, hm, hf⟩ := q_any_ok h1
    exact q_by_ok hb (hc c hm) hf
theorem q_pr2_ok (hb : q_bok v b) (hc : q_cok v cs) {l : qL} (h : q_pr2 b cs l = true) : 0 ≤ q_ev v l := by
  rcases z_if_or h with h1 | h1
  · exact q_pr_ok hb hc h1
  · obtain ⟨c, hm, hf⟩ := q_any_ok h1
    have h2 := q_pr_ok hb hc hf
    have h3 := hc c hm
    rw [q_ev_sub] at h2; omega
end
/-! to take 0 ≤ l for granted -/
/-- vars of l with factor 1 or -1 get a new box -/
noncomputable def q_rf (l : qL) (ts : List (Nat × Int)) : qB → qB := List.rec (motive := fun _ => qB → qB) (fun b => b)
  (fun q _ ih b => ih (z_if (q_is0 (Int.sub (Prod.snd q) (Int.ofNat 1)))
      (Option.rec (motive := fun _ => qB) b (fun x => Option.rec (motive := fun _ => qB) b (fun h => z_if (q_le (Int.neg h) (Prod.fst x)) b ((Prod.fst q, Int.neg h, Prod.snd x) :: b)) (q_hi b (q_sub l (q_v (Prod.fst q))))) (q_bx b (Prod.fst q)))
    (z_if (q_is0 (Int.add (Prod.snd q) (Int.ofNat 1)))
      (Option.rec (motive := fun _ => qB) b (fun x => Option.rec (motive := fun _ => qB) b (fun h => z_if (q_le (Prod.snd x) h) b ((Prod.fst q, Prod.fst x, h) :: b)) (q_hi b (q_add l (q_v (Prod.fst q))))) (q_bx b (Prod.fst q)))
      b))) ts
noncomputable def q_one (ts : List (Nat × Int)) : Bool := List.rec (motive := fun _ => Bool) true (fun q t _ => z_if (z_nil t) (z_if (q_is0 (Int.sub (Prod.snd q) (Int.ofNat 1))) true (q_is0 (Int.add (Prod.snd q) (Int.ofNat 1)))) false) ts
abbrev qBC : Type := qB × List qL
/-- none: it can't be -/
noncomputable def q_as (l : qL) (x : qBC) : Option qBC := z_if (q_pr x.1 x.2 (q_pl (q_ng l) (Int.negSucc 0))) none (some (q_rf l l.2 x.1, z_if (q_one l.2) x.2 (z_if (q_ge0 x.1 l) x.2 (l :: x.2))))
noncomputable def q_ass (ls : List qL) : qBC → Option qBC := List.rec (motive := fun _ => qBC → Option qBC) (fun x => some x) (fun l _ ih x => z_ob (q_as l x) ih) ls
section
variable {v : Nat → Int}
theorem q_rf_ok {l : qL} (hl : 0 ≤ q_ev v l) (ts : List (Nat × Int)) : ∀ {b : qB}, q_bok v b → q_bok v (q_rf l ts b) := by
  induction ts with
  | nil => intro b hb; exact hb
  | cons q t ih =>
    intro b hb
    refine ih ?_
    have key : ∀ (p : Nat × Int × Int), (p.2.1 ≤ v p.1 ∧ v p.1 ≤ p.2.2) → q_bok v (p :: b) := by
      intro p hp r hr
      rcases List.mem_cons.1 hr with e | e
      · rw [e]; exact hp
      · exact hb r e
    cases h1 : q_is0 (Int.sub q.2 (Int.ofNat 1)) with
    | true =>
      cases h2 : q_bx b q.1 with
      | none => exact hb
      | some x =>
        cases h3 : q_hi b (q_sub l (q_v q.1)) with
        | none => exact hb
        | some h =>
          show q_bok v (z_if (q_le (Int.neg h) x.1) b ((q.1, Int.neg h, x.2) :: b))
          cases h4 : q_le (Int.neg h) x.1 with
          | true => exact hb
          | false =>
            have h5 := q_hi_ok hb h3
            rw [q_ev_sub, q_ev_v] at h5
            have h6 := q_bx_ok hb h2
            exact key (q.1, Int.neg h, x.2) ⟨by show -h ≤ v q.1; omega, h6.2⟩
    | false =>
      cases h1' : q_is0 (Int.add q.2 (Int.ofNat 1)) with
      | false => exact hb
      | true =>
        cases h2 : q_bx b q.1 with
        | none => exact hb
        | some x =>
          cases h3 : q_hi b (q_add l (q_v q.1)) with
          | none => exact hb
          | some h =>
            show q_bok v (z_if (q_le x.2 h) b ((q.1, x.1, h) :: b))
            cases h4 : q_le x.2 h with
            | true => exact hb
            | false =>
              have h5 := q_hi_ok hb h3
              rw [q_ev_add, q_ev_v] at h5
              have h6 := q_bx_ok hb h2
              exact key (q.1, x.1, h) ⟨h6.1, by show v q.1 ≤ h; omega⟩
theorem q_as_ok {l : qL} {x : qBC} (hb : q_bok v x.1) (hc : q_cok v x.2) (hl : 0 ≤ q_ev v l) : ∃ y, q_as l x = some y ∧ q_bok v y.1 ∧ q_cok v y.2 := by
  cases h : q_pr x.1 x.2 (q_pl (q_ng l) (Int.negSucc 0)) with
  | true =>
    have h1 := q_pr_ok hb hc h
    rw [q_ev_pl, q_ev_ng] at h1
    have e : (Int.negSucc 0 : Int) = -1 := rfl
    rw [e] at h1
    omega
  | false =>
    refine ⟨(q_rf l l.2 x.1, z_if (q_one l.2) x.2 (z_if (q_ge0 x.1 l) x.2 (l :: x.2))), ?_, q_rf_ok hl l.2 hb, ?_⟩
    · show z_if (q_pr x.1 x.2 (q_pl (q_ng l) (Int.negSucc 0))) none _ = _
      rw [h]
    · have hcons : q_cok v (l :: x.2) := by
        intro c hm
        rcases List.mem_cons.1 hm with e | e
        · rw [e]; exact hl
        · exact hc c e
      show q_cok v (z_if (q_one l.2) x.2 (z_if (q_ge0 x.1 l) x.2 (l :: x.2)))
      cases q_one l.2 with
      | true => exact hc
      | false =>
        cases q_ge0 x.1 l with
        | true => exact hc
        | false => exact hcons
theorem q_ass_ok (ls : List qL) : ∀ {x : qBC}, q_bok v x.1 → q_cok v x.2 → (∀ l ∈ ls, 0 ≤ q_ev v l) → ∃ y, q_ass ls x = some y ∧ q_bok v y.1 ∧ q_cok v y.2 := by
  induction ls with
  | nil => intro x hb hc _; exact ⟨x, rfl, hb, hc⟩
  | cons l t ih =>
    intro x hb hc h
    obtain ⟨y, e, hb', hc'⟩ := q_as_ok hb hc (h l (List.mem_cons_self ..))
    obtain ⟨w, e2, hb2, hc2⟩ := ih hb' hc' (fun l hl => h l (List.mem_cons_of_mem _ hl))
    exact ⟨w, by show z_ob (q_as l x) (q_ass t) = some w; rw [e]; exact e2, hb2, hc2⟩
end
