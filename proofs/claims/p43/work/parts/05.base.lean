/-! what the executor's words mean: values, boxes, the tree of cells -/
theorem z_ob_some {α β : Type} {o : Option α} {f : α → Option β} {r : β} (h : z_ob o f = some r) : ∃ a, o = some a ∧ f a = some r := by
  cases o with
  | none => cases h
  | some a => exact ⟨a, rfl, h⟩
theorem z_if_some {α : Type} {b : Bool} {x : Option α} {r : α} (h : z_if b x none = some r) : b = true ∧ x = some r := by
  cases b with
  | false => cases h
  | true => exact ⟨rfl, h⟩
theorem z_if_none {α : Type} {b : Bool} {x : Option α} {r : α} (h : z_if b none x = some r) : b = false ∧ x = some r := by
  cases b with
  | true => cases h
  | false => exact ⟨rfl, h⟩
theorem z_lc_some {α β : Type} {l : List α} {f : α → List α → Option β} {r : β} (h : z_lc l f = some r) : ∃ a t, l = a :: t ∧ f a t = some r := by
  cases l with
  | nil => cases h
  | cons a t => exact ⟨a, t, rfl, h⟩
theorem z_nth_eq {α : Type} : ∀ (l : List α) (k : Nat), z_nth l k = l[k]?
  | [], _ => by simp [z_nth]
  | a :: t, 0 => rfl
  | a :: t, k + 1 => by
    show z_nth t k = _
    rw [z_nth_eq t k]; simp
theorem z_lst_eq {α : Type} (v : α) : ∀ (l : List α) (k : Nat), z_lst l v k = l.set k v
  | [], _ => rfl
  | a :: t, 0 => rfl
  | a :: t, k + 1 => by
    show a :: z_lst t v k = _
    rw [z_lst_eq v t k]; rfl
theorem z_beq {a b : Nat} (h : Nat.beq a b = true) : a = b := Nat.eq_of_beq_eq_true h
theorem z_nbeq {a b : Nat} (h : Nat.beq a b = false) : a ≠ b := Nat.ne_of_beq_eq_false h
theorem z_ble {a b : Nat} (h : Nat.ble a b = true) : a ≤ b := Nat.le_of_ble_eq_true h
theorem z_nble {a b : Nat} (h : Nat.ble a b = false) : b < a := by
  rcases Nat.lt_or_ge b a with q | q
  · exact q
  · rw [Nat.ble_eq_true_of_le q] at h; cases h
theorem z_blt {a b : Nat} (h : Nat.blt a b = true) : a < b := Nat.le_of_ble_eq_true h
theorem z_nblt {a b : Nat} (h : Nat.blt a b = false) : b ≤ a := Nat.le_of_lt_succ (z_nble h)
/-! the tree -/
theorem z_tgs : ∀ (D : Nat) (t : zT D) (k j : Nat) (c : zC), k < 2 ^ D → j < 2 ^ D → z_tg D (z_ts D t k c) j = if j = k then c else z_tg D t j
  | 0, t, k, j, c, hk, hj => by
    rw [if_pos (by simp at hk hj; omega)]; rfl
  | D + 1, t, k, j, c, hk, hj => by
    have hk2 : k / 2 < 2 ^ D := by rw [Nat.pow_succ] at hk; omega
    have hj2 : j / 2 < 2 ^ D := by rw [Nat.pow_succ] at hj; omega
    show z_tg D (z_if (Nat.beq (Nat.mod j 2) 0) (Prod.fst (α := zT D) (β := zT D) (z_ts (D + 1) t k c)) (Prod.snd (α := zT D) (β := zT D) (z_ts (D + 1) t k c))) (j / 2) = if j = k then c else z_tg D (z_if (Nat.beq (Nat.mod j 2) 0) (Prod.fst (α := zT D) (β := zT D) t) (Prod.snd (α := zT D) (β := zT D) t)) (j / 2)
    have e : z_ts (D + 1) t k c = z_if (α := zT D × zT D) (Nat.beq (Nat.mod k 2) 0) (z_ts D (Prod.fst (α := zT D) (β := zT D) t) (k / 2) c, Prod.snd (α := zT D) (β := zT D) t) (Prod.fst (α := zT D) (β := zT D) t, z_ts D (Prod.snd (α := zT D) (β := zT D) t) (k / 2) c) := rfl
    rw [e]
    cases hkb : Nat.beq (Nat.mod k 2) 0 <;> cases hjb : Nat.beq (Nat.mod j 2) 0
    · have h1 : k % 2 ≠ 0 := z_nbeq hkb
      have h2 : j % 2 ≠ 0 := z_nbeq hjb
      show z_tg D (z_ts D (Prod.snd (α := zT D) (β := zT D) t) (k / 2) c) (j / 2) = _
      rw [z_tgs D _ _ _ _ hk2 hj2]
      by_cases h : j = k
      · subst h; simp
      · rw [if_neg h, if_neg (by omega)]
    · have h1 : k % 2 ≠ 0 := z_nbeq hkb
      have h2 : j % 2 = 0 := z_beq hjb
      rw [if_neg (by omega)]
    · have h1 : k % 2 = 0 := z_beq hkb
      have h2 : j % 2 ≠ 0 := z_nbeq hjb
      rw [if_neg (by omega)]
    · have h1 : k % 2 = 0 := z_beq hkb
      have h2 : j % 2 = 0 := z_beq hjb
      show z_tg D (z_ts D (Prod.fst (α := zT D) (β := zT D) t) (k / 2) c) (j / 2) = _
      rw [z_tgs D _ _ _ _ hk2 hj2]
      by_cases h : j = k
      · subst h; simp
      · rw [if_neg h, if_neg (by omega)]
theorem z_hgs {H : zH} {k j : Nat} {c : zC} (hk : k < 256) (hj : j < 256) : z_hg (z_hs H k c) j = if j = k then c else z_hg H j := z_tgs 8 _ _ _ _ hk hj
theorem z_hgp {H : zH} {j : Nat} {c : zC} (hk : H.1 < 256) (hj : j < 256) : z_hg (z_hp H c) j = if j = H.1 then c else z_hg H j := z_tgs 8 _ _ _ _ hk hj
/-! values -/
def zc (ρ : Nat → Int32) (ad : Nat → Nat) (fv : Value) (v : zV) : Value := match v with
  | .inl (.ref k) => .ref (ad k)
  | .inl (.retAddr _) => fv
  | .inl w => w
  | .inr (.inl i) => .int (ρ i)
  | .inr (.inr f) => .int (f ρ)
theorem z_cI_some {v : zV} {x : Int32} (h : z_cI v = some x) : v = .inl (.int x) := by
  rcases v with w | w
  · cases w <;> first | (cases h; rfl) | cases h
  · cases h
theorem z_cL_some {v : zV} {x : Int64} (h : z_cL v = some x) : v = .inl (.long x) := by
  rcases v with w | w
  · cases w <;> first | (cases h; rfl) | cases h
  · cases h
theorem z_cR_some {v : zV} {k : Nat} (h : z_cR v = some k) : v = .inl (.ref k) := by
  rcases v with w | w
  · cases w <;> first | (cases h; rfl) | cases h
  · cases h
theorem z_cV_some {v : zV} {k : Nat} (h : z_cV v = some k) : v = .inr (.inl k) := by
  rcases v with w | w | w
  · cases h
  · cases h; rfl
  · cases h
theorem z_isR_some {v : zV} (h : z_isR v = true) : ∃ k, v = .inl (.ref k) := by
  unfold z_isR at h
  cases e : z_cR v with
  | none => rw [e] at h; cases h
  | some k => exact ⟨k, z_cR_some e⟩
theorem z_isL_some {v : zV} (h : z_isL v = true) : ∃ k, v = .inl (.long k) := by
  rcases v with w | w
  · cases w <;> first | exact ⟨_, rfl⟩ | cases h
  · cases h
theorem z_isA_some {v : zV} (h : z_isA v = true) : v = .inl .null ∨ ∃ k, v = .inl (.ref k) := by
  rcases v with w | w
  · cases w <;> first | exact Or.inl rfl | exact Or.inr ⟨_, rfl⟩ | cases h
  · cases h
section
variable {ρ : Nat → Int32} {ad : Nat → Nat} {fv : Value}
theorem z_isI_c {v : zV} (h : z_isI v = true) : zc ρ ad fv v = .int (z_I ρ v) := by
  rcases v with w | w | w
  · cases w <;> first | rfl | cases h
  · rfl
  · rfl
theorem z_cat_c (hf : fv.category = 1) (v : zV) : (zc ρ ad fv v).category = z_cat v := by
  rcases v with w | w | w
  · cases w <;> first | rfl | exact hf
  · rfl
  · rfl
theorem z_ofN (x : Int32) : Int32.ofNat x.toBitVec.toNat = x := by
  apply Int32.toBitVec_inj.mp
  show BitVec.ofNat 32 x.toBitVec.toNat = x.toBitVec
  simp
theorem z_frc_eq {α : Type} (x : Int32) (k : Int32 → α) : z_frc x k = k x := by
  have h := z_ofN x
  unfold z_frc
  generalize x.toBitVec.toNat = m at h
  cases m with
  | zero => show k _ = k x; rw [← h]
  | succ m => show k _ = k x; rw [← h]
theorem z_op2_ok {f : Int32 → Int32 → Int32} {a b c : zV} (h : z_op2 f a b = some c) : z_isI a = true ∧ z_isI b = true ∧ z_isI c = true ∧ z_I ρ c = f (z_I ρ a) (z_I ρ b) := by
  unfold z_op2 at h
  cases ea : z_cI a with
  | none =>
    rw [ea] at h
    obtain ⟨h1, h⟩ := z_if_some (show z_if (z_isI a) _ none = some c from h)
    obtain ⟨h2, h⟩ := z_if_some h
    cases h
    exact ⟨h1, h2, rfl, rfl⟩
  | some x =>
    rw [ea] at h
    have e1 := z_cI_some ea
    subst e1
    cases eb : z_cI b with
    | none =>
      rw [eb] at h
      obtain ⟨h2, h⟩ := z_if_some (show z_if (z_isI b) _ none = some c from h)
      cases h
      exact ⟨rfl, h2, rfl, rfl⟩
    | some y =>
      rw [eb] at h
      have e2 := z_cI_some eb
      subst e2
      have h3 : z_frc (f x y) (fun z => some (.inl (.int z) : zV)) = some c := h
      rw [z_frc_eq] at h3
      cases h3
      exact ⟨rfl, rfl, rfl, rfl⟩
theorem z_op1_ok {f : Int32 → Int32} {a c : zV} (h : z_op1 f a = some c) : z_isI a = true ∧ z_isI c = true ∧ z_I ρ c = f (z_I ρ a) := by
  unfold z_op1 at h
  cases ea : z_cI a with
  | none =>
    rw [ea] at h
    obtain ⟨h1, h⟩ := z_if_some (show z_if (z_isI a) _ none = some c from h)
    cases h
    exact ⟨h1, rfl, rfl⟩
  | some x =>
    rw [ea] at h
    have e1 := z_cI_some ea
    subst e1
    have h3 : z_frc (f x) (fun z => some (.inl (.int z) : zV)) = some c := h
    rw [z_frc_eq] at h3
    cases h3
    exact ⟨rfl, rfl, rfl⟩
theorem z_to0 {x : Int32} (h : Nat.beq x.toBitVec.toNat 0 = true) : x = 0 := by
  rw [← z_ofN x, z_beq h]; rfl
theorem z_is0_ok {v : zV} (h : z_is0 v = true) : z_isI v = true ∧ z_I ρ v = 0 := by
  unfold z_is0 at h
  cases e : z_cI v with
  | none => rw [e] at h; cases h
  | some x =>
    rw [e] at h
    have e1 := z_cI_some e
    subst e1
    exact ⟨rfl, z_to0 h⟩
theorem z_add_ok {a b c : zV} (h : z_add a b = some c) : z_isI a = true ∧ z_isI b = true ∧ z_isI c = true ∧ z_I ρ c = z_I ρ a + z_I ρ b := by
  unfold z_add at h
  cases ha : z_is0 a with
  | true =>
    rw [ha] at h
    obtain ⟨h2, h⟩ := z_if_some (show z_if (z_isI b) (some b) none = some c from h)
    cases h
    obtain ⟨h3, h4⟩ := z_is0_ok (ρ := ρ) ha
    exact ⟨h3, h2, h2, by rw [h4, Int32.zero_add]⟩
  | false =>
    rw [ha] at h
    cases hb : z_is0 b with
    | true =>
      rw [hb] at h
      obtain ⟨h2, h⟩ := z_if_some (show z_if (z_isI a) (some a) none = some c from h)
      cases h
      obtain ⟨h3, h4⟩ := z_is0_ok (ρ := ρ) hb
      exact ⟨h2, h3, h2, by rw [h4, Int32.add_zero]⟩
    | false =>
      rw [hb] at h
      exact z_op2_ok h
/-! order -/
theorem z_n_int (x : Int32) : (z_n x : Int) = x.toInt + 2147483648 := by
  have h := x.toBitVec.isLt
  show (((x.toBitVec.toNat + 2147483648) % 4294967296 : Nat) : Int) = x.toBitVec.toInt + 2147483648
  rw [BitVec.toInt_eq_toNat_cond]
  split <;> omega
theorem z_n_lt (x y : Int32) : z_n x < z_n y ↔ x < y := by
  have h1 := z_n_int x
  have h2 := z_n_int y
  rw [Int32.lt_iff_toInt_lt]
  omega
theorem z_n_le (x y : Int32) : z_n x ≤ z_n y ↔ x ≤ y := by
  have h1 := z_n_int x
  have h2 := z_n_int y
  rw [Int32.le_iff_toInt_le]
  omega
theorem z_n_eq (x y : Int32) : z_n x = z_n y ↔ x = y := by
  have h1 := z_n_int x
  have h2 := z_n_int y
  rw [← Int32.toInt_inj]
  omega
def zr (r : ClassFile.Cond) (x y : Nat) : Prop := match r with
  | .eq => x = y | .ne => ¬ x = y | .lt => x < y | .ge => ¬ x < y | .gt => y < x | .le => ¬ y < x
theorem z_cmp_ok {r : ClassFile.Cond} {x y : Nat} : z_cmp r x y = true ↔ zr r x y := by
  cases r
  · exact ⟨z_beq, fun h => by show Nat.beq x y = true; rw [h]; simp⟩
  · show z_if (Nat.beq x y) false true = true ↔ ¬ x = y
    cases e : Nat.beq x y with
    | true => simp [z_beq e]
    | false => exact ⟨fun _ => z_nbeq e, fun _ => rfl⟩
  · exact ⟨z_blt, fun h => Nat.ble_eq_true_of_le h⟩
  · exact ⟨fun h => Nat.not_lt.mpr (z_ble h), fun h => Nat.ble_eq_true_of_le (Nat.not_lt.mp h)⟩
  · exact ⟨z_blt, fun h => Nat.ble_eq_true_of_le h⟩
  · exact ⟨fun h => Nat.not_lt.mpr (z_ble h), fun h => Nat.ble_eq_true_of_le (Nat.not_lt.mp h)⟩
theorem zr_neg {r : ClassFile.Cond} {x y : Nat} : zr (z_neg r) x y ↔ ¬ zr r x y := by
  cases r <;> simp [zr, z_neg]
theorem zr_flip {r : ClassFile.Cond} {x y : Nat} : zr (z_flip r) x y ↔ zr r y x := by
  cases r <;> simp [zr, z_flip] <;> omega
/-! boxes -/
def zok1 (x : Nat) (b : Nat × Nat × List Nat) : Prop := b.1 ≤ x ∧ x < b.2.1 ∧ ∀ c ∈ b.2.2, ¬ x = c
def zok (ρ : Nat → Int32) (β : zB) : Prop := ∀ (i : Nat) (b : Nat × Nat × List Nat), β[i]? = some b → zok1 (z_n (ρ i)) b
theorem z_has_mem : ∀ {ex : List Nat} {c : Nat}, z_has ex c = true → c ∈ ex
  | [], _, h => by cases h
  | a :: t, c, h => by
    have h : z_if (Nat.beq a c) true (z_has t c) = true := h
    cases e : Nat.beq a c with
    | true => rw [z_beq e]; exact List.mem_cons_self
    | false => rw [e] at h; exact List.mem_cons_of_mem _ (z_has_mem h)
theorem z_lo_ok {ex : List Nat} {x : Nat} (hx : ∀ c ∈ ex, ¬ x = c) : ∀ (n lo : Nat), lo ≤ x → z_lo ex n lo ≤ x
  | 0, lo, h => h
  | n + 1, lo, h => by
    show z_if (z_has ex lo) (z_lo ex n (Nat.succ lo)) lo ≤ x
    cases e : z_has ex lo with
    | false => exact h
    | true =>
      have := hx lo (z_has_mem e)
      exact z_lo_ok hx n (lo + 1) (by omega)
theorem z_hi_ok {ex : List Nat} {x : Nat} (hx : ∀ c ∈ ex, ¬ x = c) : ∀ (n hi : Nat), x < hi → x < z_hi ex n hi
  | 0, hi, h => h
  | n + 1, hi, h => by
    show x < z_if (z_has ex (Nat.pred hi)) (z_hi ex n (Nat.pred hi)) hi
    cases e : z_has ex (Nat.pred hi) with
    | false => exact h
    | true =>
      have := hx _ (z_has_mem e)
      refine z_hi_ok hx n _ ?_
      have h2 : Nat.pred hi = hi - 1 := rfl
      omega
theorem z_nb_ok {x : Nat} {b : Nat × Nat × List Nat} (h : zok1 x b) : ∃ b', z_nb b = some b' ∧ zok1 x b' := by
  obtain ⟨h1, h2, h3⟩ := h
  have a1 := z_lo_ok h3 6 b.1 h1
  have a2 := z_hi_ok h3 6 b.2.1 h2
  unfold z_nb
  cases e : Nat.ble (z_hi b.2.2 6 b.2.1) (z_lo b.2.2 6 b.1) with
  | true => exact absurd (z_ble e) (by omega)
  | false => exact ⟨_, rfl, a1, a2, h3⟩
theorem z_max_le {a b x : Nat} (h1 : a ≤ x) (h2 : b ≤ x) : z_max a b ≤ x := by
  unfold z_max; cases Nat.ble a b <;> assumption
theorem z_lt_min {a b x : Nat} (h1 : x < a) (h2 : x < b) : x < z_min a b := by
  unfold z_min; cases Nat.ble a b <;> assumption
theorem z_rb_ok {r : ClassFile.Cond} {c x : Nat} {b : Nat × Nat × List Nat} (h : zok1 x b) (hr : zr r x c) : zok1 x (z_rb r c b) := by
  obtain ⟨h1, h2, h3⟩ := h
  cases r
  · exact ⟨z_max_le h1 (Nat.le_of_eq hr.symm), z_lt_min h2 (by rw [show x = c from hr]; exact Nat.lt_succ_self _), h3⟩
  · refine ⟨h1, h2, fun k hk => ?_⟩
    rcases List.mem_cons.mp hk with e | e
    · rw [e]; exact hr
    · exact h3 k e
  · exact ⟨h1, z_lt_min h2 hr, h3⟩
  · exact ⟨z_max_le h1 (Nat.not_lt.mp hr), h2, h3⟩
  · exact ⟨z_max_le h1 hr, h2, h3⟩
  · exact ⟨h1, z_lt_min h2 (Nat.lt_succ_of_le (Nat.not_lt.mp hr)), h3⟩
theorem z_rf_ok {r : ClassFile.Cond} {i c : Nat} {β : zB} (h : zok ρ β) (hr : zr r (z_n (ρ i)) c) : ∃ β', z_rf r i c β = some β' ∧ zok ρ β' := by
  unfold z_rf
  rw [z_nth_eq]
  cases e : β[i]? with
  | none => exact ⟨β, rfl, h⟩
  | some b =>
    obtain ⟨b', e1, h1⟩ := z_nb_ok (z_rb_ok (h i b e) hr)
    refine ⟨z_lst β b' i, ?_, ?_⟩
    · show z_ob (z_nb (z_rb r c b)) _ = _
      rw [e1]
    · rw [z_lst_eq]
      intro j q hq
      by_cases hj : i = j
      · subst hj
        rw [List.getElem?_set_self (List.getElem?_eq_some_iff.mp e).1] at hq
        cases hq
        exact h1
      · rw [List.getElem?_set_ne hj] at hq
        exact h j q hq
theorem z_two_ok {x y : Option zB} {P : Prop} (h : (P ∧ ∃ β', x = some β' ∧ zok ρ β') ∨ (¬ P ∧ ∃ β', y = some β' ∧ zok ρ β')) : ∃ q ∈ z_two x y, zok ρ q.2 ∧ (q.1 = true ↔ P) := by
  rcases h with ⟨hp, β', rfl, hb⟩ | ⟨hp, β', rfl, hb⟩
  · cases y with
    | none => exact ⟨(true, β'), List.mem_cons_self, hb, fun _ => hp, fun _ => rfl⟩
    | some z => exact ⟨(true, β'), List.mem_cons_self, hb, fun _ => hp, fun _ => rfl⟩
  · cases x with
    | none => exact ⟨(false, β'), List.mem_cons_self, hb, fun h => (by cases h), fun h => absurd h hp⟩
    | some z => exact ⟨(false, β'), List.mem_cons_of_mem _ List.mem_cons_self, hb, fun h => (by cases h), fun h => absurd h hp⟩
theorem z_rf2_ok {r : ClassFile.Cond} {i c : Nat} {β : zB} (h : zok ρ β) : ∃ q ∈ z_two (z_rf r i c β) (z_rf (z_neg r) i c β), zok ρ q.2 ∧ (q.1 = true ↔ zr r (z_n (ρ i)) c) := by
  apply z_two_ok
  by_cases hp : zr r (z_n (ρ i)) c
  · exact Or.inl ⟨hp, z_rf_ok h hp⟩
  · exact Or.inr ⟨hp, z_rf_ok h (zr_neg.mpr hp)⟩
theorem z_any {β : zB} (P : Prop) (h : zok ρ β) : ∃ q ∈ [(true, β), (false, β)], zok ρ q.2 ∧ (q.1 = true ↔ P) := by
  by_cases hp : P
  · exact ⟨_, List.mem_cons_self, h, fun _ => hp, fun _ => rfl⟩
  · exact ⟨_, List.mem_cons_of_mem _ List.mem_cons_self, h, fun h => (by cases h), fun h => absurd h hp⟩
theorem z_split_ok {r : ClassFile.Cond} {a b : zV} {β : zB} (h : zok ρ β) (ha : z_isI a = true) (hb : z_isI b = true) : ∃ q ∈ z_split r a b β, zok ρ q.2 ∧ (q.1 = true ↔ zr r (z_n (z_I ρ a)) (z_n (z_I ρ b))) := by
  rcases a with a | i | f
  · cases a <;> first | cases ha | skip
    rename_i x
    rcases b with b | j | g
    · cases b <;> first | cases hb | skip
      rename_i y
      exact ⟨_, List.mem_cons_self, h, z_cmp_ok⟩
    · obtain ⟨q, h1, h2, h3⟩ := z_rf2_ok (r := z_flip r) (i := j) (c := z_n x) h
      exact ⟨q, h1, h2, h3.trans zr_flip⟩
    · exact z_any _ h
  · rcases b with b | j | g
    · cases b <;> first | cases hb | skip
      exact z_rf2_ok h
    · show ∃ q ∈ z_if (Nat.beq i j) [(z_cmp r 0 0, β)] [(true, β), (false, β)], _
      cases e : Nat.beq i j with
      | true =>
        rw [z_beq e]
        refine ⟨_, List.mem_cons_self, h, z_cmp_ok.trans ?_⟩
        cases r <;> simp [zr]
      | false => exact z_any _ h
    · exact z_any _ h
  · rcases b with b | j | g
    · cases b <;> first | cases hb | skip
      exact z_any _ h
    · exact z_any _ h
    · exact z_any _ h
theorem z_un_n (x : Int32) : z_un (z_n x) = x := by
  have h := x.toBitVec.isLt
  have e : Nat.mod (Nat.add (z_n x) 2147483648) 4294967296 = x.toBitVec.toNat := by
    show ((x.toBitVec.toNat + 2147483648) % 4294967296 + 2147483648) % 4294967296 = x.toBitVec.toNat
    omega
  show Int32.ofNat (Nat.mod (Nat.add (z_n x) 2147483648) 4294967296) = x
  rw [e]
  exact z_ofN x
theorem z_rs_ok {β : zB} {v : zV} (h : zok ρ β) : zc ρ ad fv (z_rs β v) = zc ρ ad fv v := by
  unfold z_rs
  cases e : z_cV v with
  | none => rfl
  | some i =>
    have e1 := z_cV_some e
    subst e1
    show zc ρ ad fv (Option.rec (motive := fun _ => zV) _ _ (z_nth β i)) = _
    rw [z_nth_eq]
    cases e2 : β[i]? with
    | none => rfl
    | some b =>
      show zc ρ ad fv (z_if (Nat.beq b.2.1 (Nat.succ b.1)) _ _) = _
      cases e3 : Nat.beq b.2.1 (Nat.succ b.1) with
      | false => rfl
      | true =>
        obtain ⟨h1, h2, -⟩ := h i b e2
        have h3 := z_beq e3
        have h4 : b.1 = z_n (ρ i) := by omega
        show Value.int (z_un b.1) = Value.int (ρ i)
        rw [h4, z_un_n]
end
