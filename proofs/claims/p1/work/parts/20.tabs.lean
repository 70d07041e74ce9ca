/-! heaps and summaries: what a call on the new objects answers -/
noncomputable def z_isN (v : zV) : Bool := Sum.rec (motive := fun _ => Bool) (fun w => Value.rec (motive := fun _ => Bool) (fun _ => false) (fun _ => false) (fun _ => false) (fun _ => false) true (fun _ => false) (fun _ => false) w) (fun _ => false) v
theorem z_isN_ok {v : zV} (h : z_isN v = true) : v = .inl .null := by
  rcases v with w | w
  · cases w <;> first | rfl | cases h
  · cases h
noncomputable def z_sameV (a b : zV) : Bool :=
  Option.rec (motive := fun _ => Bool)
    (Option.rec (motive := fun _ => Bool)
      (Option.rec (motive := fun _ => Bool)
        (Option.rec (motive := fun _ => Bool) (z_if (z_isN a) (z_isN b) false)
          (fun i => Option.rec (motive := fun _ => Bool) false (fun j => Nat.beq i j) (z_cV b)) (z_cV a))
        (fun i => Option.rec (motive := fun _ => Bool) false (fun j => Nat.beq i j) (z_cR b)) (z_cR a))
      (fun x => Option.rec (motive := fun _ => Bool) false (fun y => Nat.beq x.toBitVec.toNat y.toBitVec.toNat) (z_cL b)) (z_cL a))
    (fun x => Option.rec (motive := fun _ => Bool) false (fun y => Nat.beq x.toBitVec.toNat y.toBitVec.toNat) (z_cI b)) (z_cI a)
theorem z_orec {α : Type} {o : Option α} {f : α → Bool} (h : Option.rec (motive := fun _ => Bool) false f o = true) : ∃ a, o = some a ∧ f a = true := by
  cases o with
  | none => cases h
  | some a => exact ⟨a, rfl, h⟩
theorem z_ofNL (x : Int64) : Int64.ofNat x.toBitVec.toNat = x := by
  apply Int64.toBitVec_inj.mp
  show BitVec.ofNat 64 x.toBitVec.toNat = x.toBitVec
  simp
theorem z_sameV_ok {a b : zV} (h : z_sameV a b = true) : a = b := by
  unfold z_sameV at h
  cases e1 : z_cI a with
  | some x =>
    rw [e1] at h
    obtain ⟨y, e2, h⟩ := z_orec (show Option.rec (motive := fun _ => Bool) false _ (z_cI b) = true from h)
    rw [z_cI_some e1, z_cI_some e2, ← z_ofN x, ← z_ofN y, z_beq h]
  | none =>
    rw [e1] at h
    have h : Option.rec (motive := fun _ => Bool) _ _ (z_cL a) = true := h
    cases e2 : z_cL a with
    | some x =>
      rw [e2] at h
      obtain ⟨y, e3, h⟩ := z_orec (show Option.rec (motive := fun _ => Bool) false _ (z_cL b) = true from h)
      rw [z_cL_some e2, z_cL_some e3, ← z_ofNL x, ← z_ofNL y, z_beq h]
    | none =>
      rw [e2] at h
      have h : Option.rec (motive := fun _ => Bool) _ _ (z_cR a) = true := h
      cases e3 : z_cR a with
      | some x =>
        rw [e3] at h
        obtain ⟨y, e4, h⟩ := z_orec (show Option.rec (motive := fun _ => Bool) false _ (z_cR b) = true from h)
        rw [z_cR_some e3, z_cR_some e4, z_beq h]
      | none =>
        rw [e3] at h
        have h : Option.rec (motive := fun _ => Bool) _ _ (z_cV a) = true := h
        cases e4 : z_cV a with
        | some x =>
          rw [e4] at h
          obtain ⟨y, e5, h⟩ := z_orec (show Option.rec (motive := fun _ => Bool) false _ (z_cV b) = true from h)
          rw [z_cV_some e4, z_cV_some e5, z_beq h]
        | none =>
          rw [e4] at h
          have h : z_if (z_isN a) (z_isN b) false = true := h
          cases e5 : z_isN a with
          | false => rw [e5] at h; cases h
          | true => rw [e5] at h; rw [z_isN_ok e5, z_isN_ok h]
/-- two lists, place by place -/
noncomputable def z_sameL {α : Type} (f : α → α → Bool) (a : List α) : List α → Bool := List.rec (motive := fun _ => List α → Bool) (fun b => z_nil b) (fun x _ ih b => List.rec (motive := fun _ => Bool) false (fun y t _ => z_if (f x y) (ih t) false) b) a
theorem z_sameL_ok {α : Type} {f : α → α → Bool} (hf : ∀ x y, f x y = true → x = y) : ∀ {a b : List α}, z_sameL f a b = true → a = b
  | [], b, h => (z_nil_ok h).symm
  | x :: a, [], h => by cases h
  | x :: a, y :: b, h => by
    have h : z_if (f x y) (z_sameL f a b) false = true := h
    cases e : f x y with
    | false => rw [e] at h; cases h
    | true => rw [e] at h; rw [hf x y e, z_sameL_ok hf h]
noncomputable def z_sameU (a b : Nat × zV) : Bool := z_if (Nat.beq (Prod.fst a) (Prod.fst b)) (z_sameV (Prod.snd a) (Prod.snd b)) false
theorem z_sameU_ok (a b : Nat × zV) (h : z_sameU a b = true) : a = b := by
  have h : z_if (Nat.beq a.1 b.1) (z_sameV a.2 b.2) false = true := h
  cases e : Nat.beq a.1 b.1 with
  | false => rw [e] at h; cases h
  | true => rw [e] at h; exact Prod.ext (z_beq e) (z_sameV_ok h)
noncomputable def z_sameK (a b : zK) : Bool := Sum.rec (motive := fun _ => Bool) (fun x => Sum.rec (motive := fun _ => Bool) (fun y => z_if (Nat.beq x.1 y.1) (z_if (Nat.beq x.2.1 y.2.1) (z_sameL z_sameU x.2.2 y.2.2) false) false) (fun _ => false) b) (fun x => Sum.rec (motive := fun _ => Bool) (fun _ => false) (fun y => z_if (Nat.beq x.1 y.1) (z_sameL z_sameV x.2 y.2) false) b) a
theorem z_ifT {b x : Bool} (h : z_if b x false = true) : b = true ∧ x = true := by
  cases b with
  | false => cases h
  | true => exact ⟨rfl, h⟩
theorem z_sameK_ok (a b : zK) (h : z_sameK a b = true) : a = b := by
  rcases a with a | a <;> rcases b with b | b
  · obtain ⟨h1, h⟩ := z_ifT h
    obtain ⟨h2, h⟩ := z_ifT h
    rw [show a = b from Prod.ext (z_beq h1) (Prod.ext (z_beq h2) (z_sameL_ok z_sameU_ok h))]
  · cases h
  · cases h
  · obtain ⟨h1, h⟩ := z_ifT h
    rw [show a = b from Prod.ext (z_beq h1) (z_sameL_ok (fun _ _ => z_sameV_ok) h)]
noncomputable def z_sameC (a b : zC) : Bool := Option.rec (motive := fun _ => Bool) (Option.rec (motive := fun _ => Bool) true (fun _ => false) b) (fun x => Option.rec (motive := fun _ => Bool) false (fun y => z_sameK x y) b) a
theorem z_sameC_ok (a b : zC) (h : z_sameC a b = true) : a = b := by
  cases a <;> cases b
  · rfl
  · cases h
  · cases h
  · rw [z_sameK_ok _ _ h]
/-- a heap holds these cells from place k on -/
noncomputable def z_holds (X : zH) (l : List zC) : Nat → Bool := List.rec (motive := fun _ => Nat → Bool) (fun _ => true) (fun c _ ih k => z_if (z_sameC (z_hg X k) c) (ih (Nat.succ k)) false) l
theorem z_holds_ok {X : zH} : ∀ {l : List zC} {k : Nat}, z_holds X l k = true → ∀ (j : Nat) (c : zC), l[j]? = some c → z_hg X (k + j) = c
  | [], k, _, j, c, hc => by simp at hc
  | c0 :: l, k, h, j, c, hc => by
    obtain ⟨h1, h⟩ := z_ifT (show z_if (z_sameC (z_hg X k) c0) (z_holds X l (Nat.succ k)) false = true from h)
    cases j with
    | zero =>
      simp at hc
      rw [← hc]
      exact z_sameC_ok _ _ h1
    | succ j =>
      have := z_holds_ok h j c (by simpa using hc)
      rw [← this]
      congr 1
      show k + (j + 1) = k + 1 + j
      omega
noncomputable def z_isH (X : zH) (l : List zC) : Bool := z_if (Nat.beq X.1 l.length) (z_holds X l 0) false
/-- a list's heap holds the list -/
theorem z_hl_ok : ∀ (l : List zC) (X : zH), X.1 + l.length ≤ 256 → (l.foldl z_hp X).1 = X.1 + l.length ∧ (∀ k, k < X.1 → z_hg (l.foldl z_hp X) k = z_hg X k) ∧ ∀ (j : Nat) (c : zC), l[j]? = some c → z_hg (l.foldl z_hp X) (X.1 + j) = c
  | [], X, _ => ⟨rfl, fun _ _ => rfl, fun j c h => by simp at h⟩
  | c0 :: l, X, h => by
    simp at h
    obtain ⟨h1, h2, h3⟩ := z_hl_ok l (z_hp X c0) (by show X.1 + 1 + l.length ≤ 256; omega)
    refine ⟨?_, fun k hk => ?_, fun j c hc => ?_⟩
    · show (l.foldl z_hp (z_hp X c0)).1 = _
      rw [h1]
      show X.1 + 1 + l.length = X.1 + (l.length + 1)
      omega
    · show z_hg (l.foldl z_hp (z_hp X c0)) k = _
      rw [h2 k (Nat.lt_succ_of_lt hk), z_hgp (by omega) (by omega), if_neg (by omega)]
    · show z_hg (l.foldl z_hp (z_hp X c0)) _ = _
      cases j with
      | zero =>
        simp at hc
        rw [show X.1 + 0 = X.1 from rfl, h2 X.1 (Nat.lt_succ_self _), z_hgp (by omega) (by omega), if_pos rfl, hc]
      | succ j =>
        have := h3 j c (by simpa using hc)
        rw [← this]
        congr 1
        show X.1 + (j + 1) = X.1 + 1 + j
        omega
theorem z_hl_len {l : List zC} (h : l.length ≤ 256) : (z_hl l).1 = l.length := by
  have := (z_hl_ok l ((0 : Nat), z_t0 8) (by show 0 + l.length ≤ 256; omega)).1
  rw [show z_hl l = l.foldl z_hp ((0 : Nat), z_t0 8) from rfl, this]
  show 0 + l.length = l.length
  omega
theorem z_hl_get {l : List zC} (h : l.length ≤ 256) {j : Nat} {c : zC} (hc : l[j]? = some c) : z_hg (z_hl l) j = c := by
  have := (z_hl_ok l ((0 : Nat), z_t0 8) (by show 0 + l.length ≤ 256; omega)).2.2 j c hc
  rw [show z_hl l = l.foldl z_hp ((0 : Nat), z_t0 8) from rfl, ← this]
  show z_hg _ j = z_hg _ (0 + j)
  rw [Nat.zero_add]
/-! boxes in boxes -/
noncomputable def z_sub1 (a b : Nat × Nat × List Nat) : Bool := z_if (Nat.ble b.1 a.1) (z_if (Nat.ble a.2.1 b.2.1) (List.rec (motive := fun _ => Bool) true (fun c _ ih => z_if (z_if (z_has a.2.2 c) true (z_if (Nat.blt c a.1) true (Nat.ble a.2.1 c))) ih false) b.2.2) false) false
noncomputable def z_sub (a : zB) : zB → Bool := List.rec (motive := fun _ => zB → Bool) (fun b => z_nil b) (fun x _ ih b => List.rec (motive := fun _ => Bool) false (fun y t _ => z_if (z_sub1 x y) (ih t) false) b) a
theorem z_sub1_ok {x : Nat} {a b : Nat × Nat × List Nat} (h : z_sub1 a b = true) (ha : zok1 x a) : zok1 x b := by
  obtain ⟨h1, h⟩ := z_ifT h
  obtain ⟨h2, h⟩ := z_ifT h
  refine ⟨Nat.le_trans (z_ble h1) ha.1, Nat.lt_of_lt_of_le ha.2.1 (z_ble h2), ?_⟩
  revert h
  generalize b.2.2 = ex
  intro h
  induction ex with
  | nil => intro c hc; cases hc
  | cons c0 t ih =>
    obtain ⟨q1, q2⟩ := z_ifT (show z_if (z_if (z_has a.2.2 c0) true (z_if (Nat.blt c0 a.1) true (Nat.ble a.2.1 c0))) (List.rec (motive := fun _ => Bool) true _ t) false = true from h)
    intro c hc
    rcases List.mem_cons.mp hc with e | e
    · rw [e]
      cases e1 : z_has a.2.2 c0 with
      | true => exact ha.2.2 c0 (z_has_mem e1)
      | false =>
        rw [e1] at q1
        cases e2 : Nat.blt c0 a.1 with
        | true =>
          have := z_blt e2
          have := ha.1
          omega
        | false =>
          rw [e2] at q1
          have := z_ble (show Nat.ble a.2.1 c0 = true from q1)
          have := ha.2.1
          omega
    · exact ih q2 c e
theorem z_sub_at : ∀ {a b : zB}, z_sub a b = true → ∀ (i : Nat) (y : Nat × Nat × List Nat), b[i]? = some y → ∃ x, a[i]? = some x ∧ z_sub1 x y = true
  | [], b, h, i, y, hy => by rw [z_nil_ok h] at hy; simp at hy
  | x :: a, [], h, _, _, _ => by cases h
  | x :: a, y0 :: b, h, i, y, hy => by
    obtain ⟨h1, h⟩ := z_ifT (show z_if (z_sub1 x y0) (z_sub a b) false = true from h)
    cases i with
    | zero =>
      simp at hy
      exact ⟨x, rfl, by rw [← hy]; exact h1⟩
    | succ i =>
      obtain ⟨z, hz, h3⟩ := z_sub_at h i y (by simpa using hy)
      exact ⟨z, by simpa using hz, h3⟩
theorem z_sub_ok {ρ : Nat → Int32} {a b : zB} (h : z_sub a b = true) (ha : zok ρ a) : zok ρ b := by
  intro i y hy
  obtain ⟨x, hx, h1⟩ := z_sub_at h i y hy
  exact z_sub1_ok h1 (ha i x hx)
noncomputable def z_mt1 (a b : Nat × Nat × List Nat) : Nat × Nat × List Nat := (z_max a.1 b.1, z_min a.2.1 b.2.1, z_cat2 a.2.2 b.2.2)
noncomputable def z_meet (a : zB) : zB → Option zB := List.rec (motive := fun _ => zB → Option zB) (fun b => z_if (z_nil b) (some []) none) (fun x _ ih b => z_lc b fun y t => z_ob (z_nb (z_mt1 x y)) fun z => z_ob (ih t) fun r => some (z :: r)) a
theorem z_meet_ok {f : Nat → Nat} : ∀ {a b : zB}, a.length = b.length → (∀ (i : Nat) (x : Nat × Nat × List Nat), a[i]? = some x → zok1 (f i) x) → (∀ (i : Nat) (x : Nat × Nat × List Nat), b[i]? = some x → zok1 (f i) x) → ∃ r, z_meet a b = some r ∧ ∀ (i : Nat) (x : Nat × Nat × List Nat), r[i]? = some x → zok1 (f i) x
  | [], [], _, _, _ => ⟨[], rfl, fun i x h => by simp at h⟩
  | [], _ :: _, h, _, _ => by simp at h
  | _ :: _, [], h, _, _ => by simp at h
  | x :: a, y :: b, hl, ha, hb => by
    have hx := ha 0 x rfl
    have hy := hb 0 y rfl
    obtain ⟨z, hz, hz1⟩ := z_nb_ok (x := f 0) (b := z_mt1 x y) ⟨z_max_le hx.1 hy.1, z_lt_min hx.2.1 hy.2.1, fun c hc => by
      rw [show (z_mt1 x y).2.2 = x.2.2 ++ y.2.2 from z_cat2_eq _ _] at hc
      rcases List.mem_append.mp hc with e | e
      · exact hx.2.2 c e
      · exact hy.2.2 c e⟩
    obtain ⟨r, hr, hr1⟩ := z_meet_ok (f := fun i => f (i + 1)) (a := a) (b := b) (by simpa using hl) (fun i q hq => ha (i + 1) q (by simpa using hq)) (fun i q hq => hb (i + 1) q (by simpa using hq))
    refine ⟨z :: r, ?_, fun i q hq => ?_⟩
    · show z_ob (z_nb (z_mt1 x y)) (fun z => z_ob (z_meet a b) fun r => some (z :: r)) = _
      rw [hz]
      show z_ob (z_meet a b) (fun r => some (z :: r)) = _
      rw [hr]
    · cases i with
      | zero =>
        simp at hq
        rw [← hq]
        exact hz1
      | succ i => exact hr1 i q (by simpa using hq)
theorem z_meet_k {ρ : Nat → Int32} {a b : zB} (hl : a.length = b.length) (ha : zok ρ a) (hb : zok ρ b) : ∃ r, z_meet a b = some r ∧ zok ρ r := z_meet_ok (f := fun i => z_n (ρ i)) hl ha hb
/-- all vars free -/
def z_b0 : zB := [(0, 4294967296, []), (0, 4294967296, []), (0, 4294967296, []), (0, 4294967296, []), (0, 4294967296, []), (0, 4294967296, []), (0, 4294967296, [])]
theorem z_b0_ok {ρ : Nat → Int32} : zok ρ z_b0 := by
  have h : ∀ x ∈ z_b0, x = (0, 4294967296, []) := by decide
  intro i b hb
  rw [h b (List.mem_of_getElem? hb)]
  refine ⟨Nat.zero_le _, ?_, fun c hc => by cases hc⟩
  show (ρ i).toBitVec.toNat.add 2147483648 |>.mod 4294967296 |> (· < 4294967296)
  exact Nat.mod_lt _ (by decide)
abbrev zY : Type := Nat × List zV × List (zB × zV)
/-- a leaf is told by one of the summaries -/
noncomputable def z_told (sm : List (zB × zV)) (r : zR) : Bool := Option.rec (motive := fun _ => Bool) false (fun v => List.rec (motive := fun _ => Bool) false (fun s _ ih => z_if (z_sameV v (Prod.snd s)) (z_if (z_sub r.1 (Prod.fst s)) true ih) ih) sm) r.2.1
theorem z_told_ok {sm : List (zB × zV)} {r : zR} (h : z_told sm r = true) : ∃ v s, r.2.1 = some v ∧ s ∈ sm ∧ v = s.2 ∧ z_sub r.1 s.1 = true := by
  obtain ⟨v, hv, h2⟩ := z_orec h
  clear h
  revert h2
  intro h
  induction sm with
  | nil => cases h
  | cons s t ih =>
    have h : z_if (z_sameV v s.2) (z_if (z_sub r.1 s.1) true (List.rec (motive := fun _ => Bool) false _ t)) (List.rec (motive := fun _ => Bool) false _ t) = true := h
    cases e1 : z_sameV v s.2 with
    | false =>
      rw [e1] at h
      obtain ⟨v', s', a1, a2, a3⟩ := ih h
      exact ⟨v', s', a1, List.mem_cons_of_mem _ a2, a3⟩
    | true =>
      rw [e1] at h
      have h : z_if (z_sub r.1 s.1) true (List.rec (motive := fun _ => Bool) false _ t) = true := h
      cases e2 : z_sub r.1 s.1 with
      | false =>
        rw [e2] at h
        obtain ⟨v', s', a1, a2, a3⟩ := ih h
        exact ⟨v', s', a1, List.mem_cons_of_mem _ a2, a3⟩
      | true => exact ⟨v, s, hv, List.mem_cons_self, z_sameV_ok e1, e2⟩
noncomputable def z_allR (f : zR → Bool) (l : List zR) : Bool := List.rec (motive := fun _ => Bool) true (fun r _ ih => z_if (f r) ih false) l
theorem z_allR_ok {f : zR → Bool} : ∀ {l : List zR}, z_allR f l = true → ∀ r ∈ l, f r = true
  | [], _, r, hr => by cases hr
  | x :: l, h, r, hr => by
    obtain ⟨h1, h⟩ := z_ifT (show z_if (f x) (z_allR f l) false = true from h)
    rcases List.mem_cons.mp hr with e | e
    · rw [e]; exact h1
    · exact z_allR_ok h r e
