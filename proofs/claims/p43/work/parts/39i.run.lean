/-! the checker is sound: runs and contracts -/
section
variable {S : Nat → Int32} {Ms : List zM} {Cd : List (List qCon)} {d : Nat} {M : zM} {X0 : zH} {n1 : Nat} {v0 v1 : Nat → Int} {C : qCon} {D : Int} {L : zR → Prop} {m : Nat}
theorem q_fnd_ok {pc : Nat} {cs : List qX} {x : qX} (h : q_fnd pc cs = some x) : x ∈ cs ∧ x.1 = pc := by
  induction cs with
  | nil => cases h
  | cons e t ih =>
    have h : z_if (Nat.beq e.1 pc) (some e) (q_fnd pc t) = some x := h
    cases hb : Nat.beq e.1 pc with
    | true =>
      rw [hb] at h
      have h : some e = some x := h
      cases h
      exact ⟨List.mem_cons_self .., q_beq_iff.mp hb⟩
    | false =>
      rw [hb] at h
      obtain ⟨h1, h2⟩ := ih h
      exact ⟨List.mem_cons_of_mem _ h1, h2⟩
theorem q_run_ok {arr : qA → Bool} {code : List qX} (hcode : ∀ x ∈ code, ∃ e ∈ zm_c M, x.1 = e.1 ∧ q_aok S Ms d M L X0 m n1 v1 e x.2.2.2.2) (harr : q_good S d M L X0 m n1 v1 arr) (f : Nat) : ∀ (fst : Bool), q_good S d M L X0 m n1 v1 (q_run arr code f fst) := by
  induction f with
  | zero => intro fst A v F h; cases h
  | succ f ih =>
    intro fst A v F h hn hv hg
    have h : q_ca A (fun pc ls st w => q_ob (q_fnd pc code) fun x => z_if (q_and x.2.1 (q_not fst)) (arr (pc, ls, st, w)) (q_hnt (fun w => x.2.2.2.2 (q_run arr code f false) (pc, ls, st, w)) ls x.2.2.1 w)) = true := h
    rw [q_ca_eq] at h
    obtain ⟨x, hx, h⟩ := q_ob_iff.mp h
    rcases q_if_iff.mp h with ⟨_, h⟩ | ⟨_, h⟩
    · exact harr _ v F h hn hv hg
    · obtain ⟨h1, h2⟩ := q_fnd_ok hx
      obtain ⟨e, he, e1, hok⟩ := hcode x h1
      have hw : q_wg S X0 m v A.2.2.2 F.2.2.2.1 := fun u hu => (hg u hu).2.2.2.1
      have hl : q_lg A.2.2.2.1 v A.2.1 F.2.1 := fun u hu => (hg u hu).2.1
      obtain ⟨w', v', k1, k2, k3⟩ := q_hnt_ok _ h hl hw
      obtain ⟨g1, _, _, _, g5⟩ := hg v (q_agr.refl _ _)
      refine hok _ _ v' F k1 (ih false) (Nat.le_trans hn k2.1) (q_agr.trans hn hv k2.2) (fun u hu => ?_) ?_
      · obtain ⟨_, a2, a3, _, _⟩ := hg u (q_agr.trans k2.1 k2.2 hu)
        exact ⟨g1, a2, a3, k3 u hu, g5⟩
      · rw [g1, ← h2, e1]
theorem q_code_ok (hb : q_base' Ms) (hM : ∀ e ∈ zm_c M, zEok Ms M e) (hd : q_den n1 v1 (q_dl C) D) (hD : D.toNat ≤ d) (hc : q_calls S Ms Cd D) (hm : C.2.1 ≤ n1) (h0 : q_agr C.2.1 v0 v1) : ∀ x ∈ q_code Ms Cd C M, ∃ e ∈ zm_c M, x.1 = e.1 ∧ q_aok S Ms d M (q_LC S C X0 v0) X0 (q_mod C) n1 v1 e x.2.2.2.2 := fun x hx => by
  obtain ⟨e, he, hx⟩ := List.mem_map.mp hx
  rw [← hx]
  exact ⟨e, he, rfl, q_act_ok hb hM he hd hD hc hm h0⟩
/-- from every state of a cut the machine comes to an end: the cut's measure falls -/
theorem q_cuts_ok (hb : q_base' Ms) (hM : ∀ e ∈ zm_c M, zEok Ms M e) (hsc : q_sco C.2.1 (q_dl C) = true) (hD : (q_ev v0 (q_dl C)).toNat ≤ d) (hc : q_calls S Ms Cd (q_ev v0 (q_dl C))) (hcuts : ∀ c ∈ q_cuts C, q_cutok Ms Cd C M c = true) : ∀ (μ : Nat), ∀ c ∈ q_cuts C, ∀ (v : Nat → Int) (F : zF), q_agr C.2.1 v0 v → (q_ev v c.2.2.2.2).toNat ≤ μ → q_gam S X0 (q_mod C) (zm_mc M, zm_ms M) v (q_cst c) F → zEnds S d M F (q_LC S C X0 v0) := by
  intro μ
  induction μ using Nat.strongRecOn with
  | _ μ ih =>
    intro c hcm v F h0 hμ hg
    have h := hcuts c hcm
    unfold q_cutok at h
    obtain ⟨h1, h⟩ := q_and_iff.mp h
    obtain ⟨h2, h⟩ := q_and_iff.mp h
    have hn := z_ble h1
    have hmd := q_sco_den h2 v
    have hdl : q_den c.2.1 v (q_dl C) (q_ev v0 (q_dl C)) := by
      have e1 := q_sco_den hsc v0 v h0
      have e2 := q_sco_den hsc v
      rw [e1] at e2
      exact fun u hu => e2 u (hu.le hn)
    refine q_run_ok (q_code_ok hb hM hdl hD hc hn h0) (fun A v' F' ha hn' hv' hg' => ?_) 30000 true (q_cst c) v F h (Nat.le_refl _) (q_agr.refl _ _) hg
    obtain ⟨c', hc', v2, k1, k2, k3⟩ := q_arr_ok ha hn hn' hv' hg' (fun M0 hM0 => by cases hM0; exact hmd)
    obtain ⟨k4, k5⟩ := k3 _ rfl
    have hlt : (q_ev v2 c'.2.2.2.2).toNat < μ ∨ μ = 0 := by omega
    have : 0 < q_ev v c.2.2.2.2 := by omega
    exact ih (q_ev v2 c'.2.2.2.2).toNat (by omega) c' hc' v2 F' (fun j hj => (k1 j hj).trans (h0 j hj)) (Nat.le_refl _) k2
theorem q_fpc_ok (ls : List (Nat × qV)) : ∀ {k : List (Nat × qV) → Bool}, q_fpc ls k = true → k ls = true := by
  induction ls with
  | nil => intro k h; exact h
  | cons q t ih =>
    intro k h
    have h : q_fn q.1 (fun i => q_fpc t fun t => k ((i, q.2) :: t)) = true := h
    rw [q_fn_eq] at h
    exact ih h
theorem q_ent_ok {v : Nat → Int} (as : List qV) : ∀ {cas : List zV} {k : Nat}, (∀ a ∈ as, q_atag a = true) → q_sts v as cas → ∀ q ∈ q_ent as k, k ≤ q.1 ∧ ∃ z, z_get (z_ent cas k) q.1 = some z ∧ q_rep v q.2 z := by
  induction as with
  | nil => intro cas k _ _ q hq; cases hq
  | cons a t ih =>
    intro cas k ht h q hq
    obtain ⟨z, s, e, h1, h2⟩ := h
    subst e
    have ha := ht a (List.mem_cons_self ..)
    have hcat : z_cat z = z_if (Nat.beq a.1 2) 2 1 := by
      have ha : q_or (q_or (Nat.beq a.1 1) (q_or (Nat.beq a.1 3) (Nat.beq a.1 4))) (q_or (Nat.beq a.1 2) (Nat.beq a.1 6)) = true := ha
      simp only [q_or_iff] at ha
      rcases ha with (ha | ha | ha) | ha | ha
      · have t := q_beq_iff.mp ha
        obtain ⟨x, e, _⟩ := h1.1 t
        rw [e, t]; rfl
      · have t := q_beq_iff.mp ha
        obtain ⟨x, e, _⟩ := h1.2.2.1 t
        rw [e, t]; rfl
      · have t := q_beq_iff.mp ha
        obtain ⟨x, e, _⟩ := h1.2.2.2.1 t
        rw [e, t]; rfl
      · have t := q_beq_iff.mp ha
        obtain ⟨x, e, _⟩ := h1.2.1 t
        rw [e, t]; rfl
      · have t := q_beq_iff.mp ha
        rw [h1.2.2.2.2.2 t, t]; rfl
    have hpos : 1 ≤ z_cat z := by
      rw [hcat]
      cases Nat.beq a.1 2 <;> decide
    have hq : q ∈ (k, a) :: q_ent t (Nat.add k (z_if (Nat.beq a.1 2) 2 1)) := hq
    show k ≤ q.1 ∧ ∃ z', z_if (Nat.beq k q.1) (some z) (z_get (z_ent s (Nat.add k (z_cat z))) q.1) = some z' ∧ q_rep v q.2 z'
    rcases List.mem_cons.mp hq with e | e
    · rw [e]
      refine ⟨Nat.le_refl _, z, ?_, h1⟩
      show z_if (Nat.beq k k) (some z) _ = some z
      rw [q_beqr]
    · rw [← hcat] at e
      obtain ⟨g1, z', g2, g3⟩ := ih (fun x hx => ht x (List.mem_cons_of_mem _ hx)) h2 q e
      have g1 : k + z_cat z ≤ q.1 := g1
      refine ⟨by omega, z', ?_, g3⟩
      have hb : Nat.beq k q.1 = false := by
        cases hb : Nat.beq k q.1 with
        | false => rfl
        | true => have := q_beq_iff.mp hb; omega
      rw [hb]
      exact g2
/-- a contract that the checker has taken holds, if those of less depth do -/
theorem q_con_ok {cas : List zV} {X : zH} (hb : q_base' Ms) (hok : zMok Ms M) (h : q_con Ms Cd M C = true) (hc : q_calls S Ms Cd (q_ev v0 (q_dl C))) (hen : q_entry S C v0 cas X) (h1 : 1 ≤ q_ev v0 (q_dl C)) : zCalled S (q_ev v0 (q_dl C)).toNat M cas X (q_LC S C X v0) := by
  unfold q_con at h
  simp only [q_and_iff] at h
  obtain ⟨hsc, ⟨m1, m2⟩, ⟨ht, hL⟩, h, hcuts⟩ := h
  have hM := hok.2.2.2.2.2
  have hcuts := q_all_ok hcuts
  obtain ⟨a1, a2⟩ := hen
  have hsum : z_sum cas ≤ zm_L M := Nat.le_trans (q_sum_ok (n := C.2.1) (v := v0) C.2.2.2.1 (fun v' hv => (a2 v' hv).1)) (z_ble hL)
  refine zE_body hok hsum (by omega) ?_
  have h := q_fpc_ok _ h
  have em : (zm_mc M, zm_ms M) = (0, 0) := by rw [q_beq_iff.mp m1, q_beq_iff.mp m2]
  have hg : q_gam S X (q_mod C) (zm_mc M, zm_ms M) v0 (0, q_ent C.2.2.2.1 0, [], C.2.1, C.2.2.1.2) (0, z_ent cas 0, [], X, 0, 0) := by
    intro v' hv
    obtain ⟨b1, b2, b3, b4, b5⟩ := a2 v' hv
    refine ⟨rfl, fun q hq => (q_ent_ok C.2.2.2.1 (q_all_ok ht) b1 q hq).2, rfl, ⟨b2, b3, a1, fun _ _ _ _ => rfl, b4, b5⟩, em.symm⟩
  refine q_run_ok (q_code_ok (v0 := v0) hb hM (q_sco_den hsc v0) (Nat.le_refl _) hc (Nat.le_refl _) (q_agr.refl _ _)) (fun A v' F' ha hn' hv' hg' => ?_) 30000 false _ v0 _ h (Nat.le_refl _) (q_agr.refl _ _) hg
  obtain ⟨c', hc', v2, k1, k2, _⟩ := q_arr_ok ha (Nat.le_refl _) hn' hv' hg' (fun M0 hM0 => by cases hM0)
  exact q_cuts_ok hb hM hsc (Nat.le_refl _) hc hcuts _ c' hc' v2 F' k1 (Nat.le_refl _) k2
end
