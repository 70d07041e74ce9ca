/-! the checker is sound: a write -/
section
variable {S : Nat → Int32} {X0 X X' : zH} {m : Nat} {v : Nat → Int} {w : qW}
theorem q_drop_ok {b : qB} {p : Nat} {c i : qL} (fs : List qFa) : ∀ {k : List qFa → Bool}, q_drop b p c i fs k = true → ∃ fs', k fs' = true ∧ ∀ f ∈ fs', f ∈ fs ∧ (f.1 = p → q_dis b f.2.1 c = true ∨ q_dis b f.2.2.1 i = true) := by
  induction fs with
  | nil => intro k h; exact ⟨[], h, fun f hf => by cases hf⟩
  | cons f t ih =>
    intro k h
    have h : z_if (q_and (Nat.beq f.1 p) (q_not (q_or (q_dis b f.2.1 c) (q_dis b f.2.2.1 i)))) (q_drop b p c i t k) (q_drop b p c i t fun s => k (f :: s)) = true := h
    rcases q_if_iff.mp h with ⟨_, h1⟩ | ⟨h0, h1⟩
    · obtain ⟨fs', k1, k2⟩ := ih h1
      exact ⟨fs', k1, fun f' hf => ⟨List.mem_cons_of_mem _ (k2 f' hf).1, (k2 f' hf).2⟩⟩
    · obtain ⟨fs', k1, k2⟩ := ih h1
      refine ⟨f :: fs', k1, fun f' hf => ?_⟩
      rcases List.mem_cons.mp hf with e | e
      · rw [e]
        refine ⟨List.mem_cons_self .., fun hp => ?_⟩
        rw [q_beq_iff.mpr hp] at h0
        have h0 : q_not (q_or (q_dis b f.2.1 c) (q_dis b f.2.2.1 i)) = false := h0
        cases hd : q_or (q_dis b f.2.1 c) (q_dis b f.2.2.1 i) with
        | true => exact q_or_iff.mp hd
        | false => rw [hd] at h0; cases h0
      · exact ⟨List.mem_cons_of_mem _ (k2 f' e).1, (k2 f' e).2⟩
theorem q_dis_ok {b : qB} (hb : q_bok v b) {x y : qL} (h : q_dis b x y = true) : q_ev v x ≠ q_ev v y := by
  unfold q_dis at h
  rw [q_fl_eq] at h
  have im : (Int.negSucc 0 : Int) = -1 := rfl
  rcases z_if_or h with h | h
  · have := q_ge0_ok hb h
    rw [q_ev_pl, q_ev_sub, im] at this
    omega
  · have := q_ge0_ok hb h
    rw [q_ev_pl, q_ev_ng, q_ev_sub, im] at this
    omega
theorem q_gdrop_ok {b : qB} {cs : List qL} {p : Nat} {i : qL} (gs : List qGh) : ∀ {k : List qGh → Bool}, q_gdrop b cs p i gs k = true → ∃ gs', k gs' = true ∧ ∀ g ∈ gs', g ∈ gs ∧ ∃ mk, z_nth q_gfs g.1 = some mk ∧ (Nat.testBit mk p = false ∨ q_gkeep b cs p i g = true) := by
  induction gs with
  | nil => intro k h; exact ⟨[], h, fun f hf => by cases hf⟩
  | cons g t ih =>
    intro k h
    obtain ⟨mk, hm, h⟩ := q_ob_iff.mp (show q_ob (z_nth q_gfs g.1) (fun mk => z_if (q_or (q_not (Nat.testBit mk p)) (q_gkeep b cs p i g)) (q_gdrop b cs p i t fun s => k (g :: s)) (q_gdrop b cs p i t k)) = true from h)
    rcases q_if_iff.mp h with ⟨h0, h1⟩ | ⟨_, h1⟩
    · obtain ⟨gs', k1, k2⟩ := ih h1
      refine ⟨g :: gs', k1, fun g' hg => ?_⟩
      rcases List.mem_cons.mp hg with e | e
      · rw [e]
        refine ⟨List.mem_cons_self .., mk, hm, ?_⟩
        rcases q_or_iff.mp h0 with h2 | h2
        · exact Or.inl (q_not_iff.mp h2)
        · exact Or.inr h2
      · exact ⟨List.mem_cons_of_mem _ (k2 g' e).1, (k2 g' e).2⟩
    · obtain ⟨gs', k1, k2⟩ := ih h1
      exact ⟨gs', k1, fun g' hg => ⟨List.mem_cons_of_mem _ (k2 g' hg).1, (k2 g' hg).2⟩⟩
theorem q_d18_ok (v : Nat → Int) (ts : List (Nat × Int)) (h : q_d18 ts = true) : ∃ z, q_et v ts = 18 * z := by
  induction ts with
  | nil => exact ⟨0, rfl⟩
  | cons q t ih =>
    obtain ⟨h1, h2⟩ := z_if_and (show z_if (q_is0 (Int.emod q.2 (Int.ofNat 18))) (q_d18 t) false = true from h)
    obtain ⟨z, hz⟩ := ih h2
    have h0 : q.2 % 18 = 0 := q_is0_ok h1
    refine ⟨q.2 / 18 * v q.1 + z, ?_⟩
    show q.2 * v q.1 + q_et v t = _
    rw [hz, Int.mul_add, ← Int.mul_assoc]
    have : 18 * (q.2 / 18) = q.2 := by omega
    rw [this]
theorem q_f18_of {j j' : Nat} {x : Int} (e : ∃ z : Int, (j : Int) - (j' : Int) = 18 * z) (h : q_f18 j x) : q_f18 j' x := by
  obtain ⟨z, e⟩ := e
  have : j % 18 = j' % 18 := by omega
  unfold q_f18 at h ⊢
  rw [← this]; exact h
theorem q_fit_ok (hw : q_wg S X0 m v w X) {p j : Nat} {i : qL} {a : qV} {z : zV} (hi : q_den w.1 v i (j : Int)) (ha : q_rg w.1 v a z) (h : q_fit w.2.1 w.2.2.1 p i a = true) : q_spok (q_sp p) j z := by
  unfold q_fit at h
  obtain ⟨s, hs, h⟩ := q_ob_iff.mp h
  rw [q_sp_of hs]
  have no : ∀ {a b : Nat} {P : Prop}, s.1 = a → a ≠ b → (s.1 = b → P) := fun h1 h2 h3 => absurd (h1.symm.trans h3) h2
  rcases q_if_iff.mp h with ⟨t, h⟩ | ⟨_, h⟩
  · have t := q_beq_iff.mp t
    obtain ⟨h1, h2⟩ := q_and_iff.mp h
    obtain ⟨x, e1, e2⟩ := ha.i h1
    exact ⟨fun _ => ⟨x, e1, hw.win e2 h2⟩, no t (by decide), no t (by decide), no t (by decide)⟩
  · rcases q_if_iff.mp h with ⟨t, h⟩ | ⟨_, h⟩
    · have t := q_beq_iff.mp t
      obtain ⟨x, e1, e2⟩ := ha.l h
      exact ⟨no t (by decide), fun _ => ⟨x, e1⟩, no t (by decide), no t (by decide)⟩
    · rcases q_if_iff.mp h with ⟨t, h⟩ | ⟨_, h⟩
      · have t := q_beq_iff.mp t
        obtain ⟨h1, h2⟩ := q_and_iff.mp h
        obtain ⟨k, e1, e2, e3⟩ := ha.r h1
        exact ⟨no t (by decide), no t (by decide), fun _ => ⟨k, e1, e3.trans (q_beq_iff.mp h2)⟩, no t (by decide)⟩
      · rcases q_if_iff.mp h with ⟨t, h⟩ | ⟨_, h⟩
        · have t := q_beq_iff.mp t
          refine ⟨no t (by decide), no t (by decide), no t (by decide), fun _ => ?_⟩
          rcases q_or_iff.mp h with h | h
          · obtain ⟨h1, h2⟩ := q_and_iff.mp h
            rw [q_fl_eq] at h2
            obtain ⟨h3, h4⟩ := q_and_iff.mp h2
            obtain ⟨x, e1, e2, j', e3, e4⟩ := (ha v (q_agr.refl _ _)).2.2.2.1 (q_beq_iff.mp h1)
            refine ⟨x, e1, q_f18_of ?_ e4⟩
            obtain ⟨y, hy⟩ := q_d18_ok v _ h4
            have h3 : (q_sub a.2.2.2 i).1 % 18 = 0 := q_is0_ok h3
            have e5 := q_ev_sub (v := v) a.2.2.2 i
            rw [← e3, hi.at] at e5
            have e6 : q_ev v (q_sub a.2.2.2 i) = (q_sub a.2.2.2 i).1 + q_et v (q_sub a.2.2.2 i).2 := rfl
            rw [hy] at e6
            exact ⟨(q_sub a.2.2.2 i).1 / 18 + y, by omega⟩
          · obtain ⟨h1, h2⟩ := q_and_iff.mp h
            obtain ⟨x, e1, e2⟩ := ha.i h1
            refine ⟨x, e1, ?_⟩
            unfold q_fw at h2
            rw [q_fl_eq] at h2
            rcases q_if_iff.mp h2 with ⟨u, h2⟩ | ⟨_, h2⟩
            · obtain ⟨u1, u2⟩ := q_and_iff.mp u
              have u1 := q_ge0_ok hw.b u1
              have u2 := q_ge0_ok hw.b u2
              rw [q_ev_pl, q_ev_ng] at u2
              have i1 : (Int.ofNat 1 : Int) = 1 := rfl
              rw [i1] at u2
              have hm := q_r18_mod hi.at u1 (by omega)
              obtain ⟨b1, b2⟩ := hw.win e2 h2
              have b1 : -1 ≤ x.toInt := b1
              have b2 : x.toInt ≤ 7 := b2
              exact ⟨fun _ => ⟨b1, b2⟩, fun _ _ => by omega⟩
            · rcases q_if_iff.mp h2 with ⟨u, h2⟩ | ⟨_, h2⟩
              · obtain ⟨u1, u2⟩ := q_and_iff.mp u
                have u1 := q_ge0_ok hw.b u1
                have u2 := q_ge0_ok hw.b u2
                rw [q_ev_pl] at u1
                rw [q_ev_pl, q_ev_ng] at u2
                have i1 : (Int.ofNat 3 : Int) = 3 := rfl
                have i2 : (Int.negSucc 1 : Int) = -2 := rfl
                rw [i1] at u2
                rw [i2] at u1
                have hm := q_r18_mod hi.at (by omega) (by omega)
                exact ⟨fun _ => by omega, fun _ _ => by omega⟩
              · rcases q_if_iff.mp h2 with ⟨u, h2⟩ | ⟨_, h2⟩
                · obtain ⟨u1, u2⟩ := q_and_iff.mp u
                  have u1 := q_ge0_ok hw.b u1
                  have u2 := q_ge0_ok hw.b u2
                  rw [q_ev_pl] at u1
                  rw [q_ev_pl, q_ev_ng] at u2
                  have i1 : (Int.ofNat 17 : Int) = 17 := rfl
                  have i2 : (Int.negSucc 7 : Int) = -8 := rfl
                  rw [i1] at u2
                  rw [i2] at u1
                  have hm := q_r18_mod hi.at (by omega) (by omega)
                  exact ⟨fun _ => by omega, fun _ _ => by omega⟩
                · obtain ⟨b1, b2⟩ := hw.win e2 h2
                  have b1 : -1 ≤ x.toInt := b1
                  have b2 : x.toInt ≤ 4 := b2
                  exact ⟨fun _ => by omega, fun _ _ => ⟨b1, b2⟩⟩
        · have t := q_beq_iff.mp h
          exact ⟨no t (by decide), no t (by decide), no t (by decide), no t (by decide)⟩
theorem q_wr_ok {k : qW → Bool} {p kc j : Nat} {c i : qL} {a : qV} {z : zV} (h : q_wr m p c i a k w = true) (hw : q_wg S X0 m v w X) (hc : q_den w.1 v c (kc : Int)) (hi : q_den w.1 v i (j : Int)) (hp : q_plc kc j = p) (hk : kc < 190) (hj : j < q_len kc) (ha : q_rg w.1 v a z) (hs : q_set X kc j z X') : ∃ w', k w' = true ∧ w'.1 = w.1 ∧ q_wg S X0 m v w' X' := by
  unfold q_wr at h
  rw [q_cw_eq] at h
  obtain ⟨hb, h⟩ := q_and_iff.mp h
  obtain ⟨hf, h⟩ := q_and_iff.mp h
  obtain ⟨fs', h, hfs⟩ := q_drop_ok _ h
  obtain ⟨gs', h, hgs⟩ := q_gdrop_ok _ h
  refine ⟨_, h, rfl, fun v' hv => ?_⟩
  obtain ⟨a1, a2, a3, a4, a5, a6⟩ := hw v' hv
  obtain ⟨s1, s2, s3, s4⟩ := id hs
  refine ⟨a1, a2, ⟨s1.trans a3.1, fun k' h1 => s2 k' h1 (a3.2.1 k' h1), fun k' j' h1 h2 => ?_, a3.2.2.2⟩, fun k' j' h1 h2 => ?_, fun f hf => ?_, fun g hg => ?_⟩
  · by_cases e : k' = kc ∧ j' = j
    · obtain ⟨e1, e2⟩ := e
      subst e1; subst e2
      rw [s3, hp]
      exact q_fit_ok hw hi ha hf
    · rw [s4 k' j' h1 e]
      exact a3.2.2.1 k' j' h1 h2
  · by_cases e : k' = kc ∧ j' = j
    · obtain ⟨e1, e2⟩ := e
      subst e1; subst e2
      rw [hp, hb] at h2
      cases h2
    · rw [s4 k' j' h1 e]
      exact a4 k' j' h1 h2
  · rcases List.mem_cons.mp hf with e | e
    · rw [e]
      refine ⟨kc, j, (hc v' hv).symm, (hi v' hv).symm, hp, ?_, Or.inl hk⟩
      rw [q_slot_h hk, s3]
      exact ha v' hv
    · obtain ⟨f1, f2⟩ := hfs f e
      obtain ⟨k', j', g1, g2, g3, g4, g5⟩ := a5 f f1
      refine ⟨k', j', g1, g2, g3, ?_, g5⟩
      by_cases ek : k' < 190
      · rw [q_slot_h ek, s4 k' j' ek, ← q_slot_h (S := S) ek]
        · exact g4
        · rintro ⟨e1, e2⟩
          subst e1; subst e2
          rcases f2 (g3.symm.trans hp) with d | d
          · have := q_dis_ok a1 d
            rw [hc v' hv] at this
            exact this g1.symm
          · have := q_dis_ok a1 d
            rw [hi v' hv] at this
            exact this g2.symm
      · rcases g5 with g5 | g5
        · exact absurd g5 ek
        · subst g5
          rw [q_slot_s]
          rw [q_slot_s] at g4
          exact g4
  · obtain ⟨g1, mk, g2, g3⟩ := hgs g hg
    have g0 := a6 g g1
    cases hb2 : Nat.testBit mk p with
    | false =>
      refine q_gframe g2 (fun k' j' h1 h2 => s4 k' j' h1 ?_) g0
      rintro ⟨e1, e2⟩
      subst e1; subst e2
      rw [hp, hb2] at h2
      cases h2
    | true =>
      rcases g3 with g3 | g3
      · rw [hb2] at g3; cases g3
      · exact q_gkeep_ok hw hi hp hk hs ⟨mk, g2, hb2⟩ g3 hv g0
end
