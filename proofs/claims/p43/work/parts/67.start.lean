/-! the law: the two new objects, its loop, its answer -/
noncomputable def q_spb (s : Nat × Nat × Int × Int) (w : zV) : Bool :=
  z_if (Nat.beq s.1 1) (q_ob (z_cI w) fun x => q_fi (q_s32 x.toBitVec.toNat) fun z => q_and (q_le s.2.2.1 z) (q_le z s.2.2.2))
  (z_if (Nat.beq s.1 2) (z_isL w)
  (z_if (Nat.beq s.1 3) (q_ob (z_cR w) fun k => q_ob (z_nth q_regs k) fun r => Nat.beq r s.2.1)
  (z_if (Nat.beq s.1 4) (q_ob (z_cI w) fun x => q_fi (q_s32 x.toBitVec.toNat) fun z => q_and (q_le (Int.negSucc 0) z) (q_le z (Int.ofNat 4))) (Nat.beq s.1 0))))
noncomputable def q_cellb (k : Nat) (c : zC) : Bool := q_ob (z_nth q_regs k) fun r => q_ob (z_nth q_rks r) fun t => q_ob c fun cell => Sum.rec (motive := fun _ => Bool)
  (fun a => q_and (Nat.beq t.1 0) (q_and (Nat.beq a.1 t.2.1) (q_and (Nat.beq a.2.1 t.2.2.1) (q_ob (z_nth q_sps t.2.2.2) fun s => q_all (fun j => q_spb s (z_el a.1 a.2.2 j)) (List.range t.2.2.1)))))
  (fun o => q_and (Nat.beq t.1 1) (q_and (Nat.beq o.1 t.2.1) (q_and (Nat.beq (List.length o.2) t.2.2.1) (q_all (fun j => q_ob (z_nth q_sps (Nat.add t.2.2.2 j)) fun s => q_ob (z_nth o.2 j) fun v => q_spb s v) (List.range t.2.2.1))))) cell
noncomputable def q_invb (X : zH) : Bool := q_and (Nat.beq X.1 190) (q_all (fun k => q_cellb k (z_hg X k)) (List.range 190))
noncomputable def q_isz (X : zH) (k j : Nat) : Bool := q_ob (z_cI (q_hs X k j)) fun x => Nat.beq x.toBitVec.toNat 0
noncomputable def q_startb (X : zH) : Bool := q_and (q_invb X) (q_and (q_isz X 104 7) (q_and (q_isz X 144 67) (q_and (q_isz X 144 51) (q_and (q_isz X 144 52) (q_and (q_isz X 144 39) (q_isz X 164 0))))))
theorem q_s32_x (x : Int32) : q_s32 x.toBitVec.toNat = x.toInt := by
  rw [← q_s32_ok x.toBitVec.isLt, z_ofN]
theorem q_spb_ok {s : Nat × Nat × Int × Int} {j : Nat} {w : zV} (h : q_spb s w = true) : q_spok s j w := by
  have no : ∀ {a b : Nat} {P : Prop}, s.1 = a → a ≠ b → (s.1 = b → P) := fun h1 h2 h3 => absurd (h1.symm.trans h3) h2
  unfold q_spb at h
  rcases q_if_iff.mp h with ⟨t, h⟩ | ⟨_, h⟩
  · have t := q_beq_iff.mp t
    obtain ⟨x, hx, h⟩ := q_ob_iff.mp h
    rw [q_fi_eq, q_s32_x] at h
    obtain ⟨h1, h2⟩ := q_and_iff.mp h
    exact ⟨fun _ => ⟨x, z_cI_some hx, q_le_ok.mp h1, q_le_ok.mp h2⟩, no t (by decide), no t (by decide), no t (by decide)⟩
  · rcases q_if_iff.mp h with ⟨t, h⟩ | ⟨_, h⟩
    · have t := q_beq_iff.mp t
      exact ⟨no t (by decide), fun _ => z_isL_some h, no t (by decide), no t (by decide)⟩
    · rcases q_if_iff.mp h with ⟨t, h⟩ | ⟨_, h⟩
      · have t := q_beq_iff.mp t
        obtain ⟨k, hk, h⟩ := q_ob_iff.mp h
        obtain ⟨r, hr, h⟩ := q_ob_iff.mp h
        refine ⟨no t (by decide), no t (by decide), fun _ => ⟨k, z_cR_some hk, ?_⟩, no t (by decide)⟩
        rw [z_nth_eq] at hr
        have hlt := (List.getElem?_eq_some_iff.mp hr).1
        rw [q_regs_len] at hlt
        unfold q_reg
        rw [if_neg (by omega), hr]
        exact q_beq_iff.mp h
      · rcases q_if_iff.mp h with ⟨t, h⟩ | ⟨_, h⟩
        · have t := q_beq_iff.mp t
          obtain ⟨x, hx, h⟩ := q_ob_iff.mp h
          rw [q_fi_eq, q_s32_x] at h
          obtain ⟨h1, h2⟩ := q_and_iff.mp h
          have h1 : -1 ≤ x.toInt := q_le_ok.mp h1
          have h2 : x.toInt ≤ 4 := q_le_ok.mp h2
          exact ⟨no t (by decide), no t (by decide), no t (by decide), fun _ => ⟨x, z_cI_some hx, fun _ => by omega, fun _ _ => by omega⟩⟩
        · have t := q_beq_iff.mp h
          exact ⟨no t (by decide), no t (by decide), no t (by decide), no t (by decide)⟩
theorem q_invb_ok {S : Nat → Int32} {X : zH} (h : q_invb X = true) (hS : 0 ≤ (S 3072).toInt ∧ (S 3072).toInt ≤ 3072) : q_inv S X := by
  obtain ⟨h1, h⟩ := q_and_iff.mp h
  have hall := fun k (hk : k < 190) => q_all_ok h k (List.mem_range.mpr hk)
  have key : ∀ k, k < 190 → q_shape k (z_hg X k) ∧ ∀ j, j < q_len k → q_spok (q_sp (q_plc k j)) j (q_hs X k j) := fun k hk => by
    obtain ⟨r, hr, h2⟩ := q_ob_iff.mp (hall k hk)
    obtain ⟨t, ht, h2⟩ := q_ob_iff.mp h2
    obtain ⟨cell, hc, h2⟩ := q_ob_iff.mp h2
    rw [z_nth_eq] at hr
    have er : q_reg k = r := by
      unfold q_reg
      rw [if_neg (by omega), hr]
      rfl
    obtain ⟨et, _⟩ := q_rk_of ht
    have et' : q_rk (q_reg k) = t := by rw [er]; exact et
    have hlen : q_len k = t.2.2.1 := by show (q_rk (q_reg k)).2.2.1 = _; rw [et']
    rcases cell with a | o
    · obtain ⟨c1, h2⟩ := q_and_iff.mp (show q_and (Nat.beq t.1 0) (q_and (Nat.beq a.1 t.2.1) (q_and (Nat.beq a.2.1 t.2.2.1) (q_ob (z_nth q_sps t.2.2.2) fun s => q_all (fun j => q_spb s (z_el a.1 a.2.2 j)) (List.range t.2.2.1)))) = true from h2)
      obtain ⟨c2, h2⟩ := q_and_iff.mp h2
      obtain ⟨c3, h2⟩ := q_and_iff.mp h2
      obtain ⟨s, hs, h2⟩ := q_ob_iff.mp h2
      have c1 := q_beq_iff.mp c1
      refine ⟨⟨fun h => ?_, fun _ => ⟨a.2.2, ?_⟩⟩, fun j hj => ?_⟩
      · rw [et', c1] at h; cases h
      · rw [hc, et', hlen, ← q_beq_iff.mp c2, ← q_beq_iff.mp c3]
      · have e1 : q_plc k j = t.2.2.2 := by
          unfold q_plc
          rw [et', if_neg (by rw [c1]; decide)]
        have e2 : q_hs X k j = z_el a.1 a.2.2 j := by
          unfold q_hs
          rw [hc]
        rw [e1, e2, q_sp_of hs]
        exact q_spb_ok (q_all_ok h2 j (List.mem_range.mpr (by rw [← hlen]; exact hj)))
    · obtain ⟨c1, h2⟩ := q_and_iff.mp (show q_and (Nat.beq t.1 1) (q_and (Nat.beq o.1 t.2.1) (q_and (Nat.beq (List.length o.2) t.2.2.1) (q_all (fun j => q_ob (z_nth q_sps (Nat.add t.2.2.2 j)) fun s => q_ob (z_nth o.2 j) fun v => q_spb s v) (List.range t.2.2.1)))) = true from h2)
      obtain ⟨c2, h2⟩ := q_and_iff.mp h2
      obtain ⟨c3, h2⟩ := q_and_iff.mp h2
      have c1 := q_beq_iff.mp c1
      refine ⟨⟨fun _ => ⟨o.2, ?_, ?_⟩, fun h => ?_⟩, fun j hj => ?_⟩
      · rw [hc, et', ← q_beq_iff.mp c2]
      · rw [hlen]; exact q_beq_iff.mp c3
      · rw [et', c1] at h; cases h
      · have h3 := q_all_ok h2 j (List.mem_range.mpr (by rw [← hlen]; exact hj))
        obtain ⟨s, hs, h3⟩ := q_ob_iff.mp h3
        obtain ⟨v, hv, h3⟩ := q_ob_iff.mp h3
        have e1 : q_plc k j = Nat.add t.2.2.2 j := by
          unfold q_plc
          rw [et', if_pos c1]
          rfl
        have e2 : q_hs X k j = v := by
          unfold q_hs
          rw [hc]
          show o.2.getD j (.inl .null) = v
          rw [z_nth_eq] at hv
          rw [List.getD_eq_getElem?_getD, hv]
          rfl
        rw [e1, e2, q_sp_of hs]
        exact q_spb_ok h3
  exact ⟨q_beq_iff.mp h1, fun k hk => (key k hk).1, fun k j hk hj => (key k hk).2 j hj, hS⟩
theorem q_isz_ok {X : zH} {k j : Nat} (h : q_isz X k j = true) : q_hs X k j = .inl (.int 0) := by
  obtain ⟨x, hx, h⟩ := q_ob_iff.mp h
  rw [z_cI_some hx, z_to0 h]
/-- the heap with the one new cell; both objects, each by its own run -/
noncomputable def q_X1 : zH := z_hp (z_hl []) (some (.inr (10, z_new 10)))
noncomputable def q_non (o : Option zV) : Bool := Option.rec (motive := fun _ => Bool) true (fun _ => false) o
noncomputable def q_boot2 (X : zH) : Bool := q_ob (z_callN z_Ms 12 53 [.inl (.ref 144)] (z_hp X (some (.inr (11, z_new 11)))) []) fun lv => q_all (fun r => q_and (z_nil r.1) (q_and (q_non r.2.1) (q_startb r.2.2))) lv
noncomputable def q_boot : Bool := q_ob (z_callN z_Ms 12 0 [.inl (.ref 0)] q_X1 []) fun lv => q_all (fun r => q_and (z_nil r.1) (q_and (q_non r.2.1) (q_and (Nat.beq r.2.2.1 144) (q_boot2 r.2.2)))) lv
theorem q_boot_ok : q_boot = true := by decide +kernel
