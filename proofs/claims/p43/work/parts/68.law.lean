/-! the law from its entry to its answer -/
noncomputable def q_lst : zL := z_put1 (z_put1 (z_put1 [(0, .inl (.ref z_SCR))] 1 (.inl (.ref 0))) 2 (.inl (.ref 144))) 3 (.inl (.int 0))
def q_lv0 (S : Nat → Int32) : Nat → Int := fun j => if j = 4 then (S 3072).toInt else 0
theorem q_evk (v : Nat → Int) (k : Int) : q_ev v (k, []) = k := q_den.c (n := 0) (v := v) k v (q_agr.refl _ _)
theorem q_law_gam {S : Nat → Int32} (hS : 0 ≤ (S 3072).toInt ∧ (S 3072).toInt ≤ 3072) {X : zH} (h : q_startb X = true) : q_gam S X (q_mod qc_law) (zm_mc zm_law, zm_ms zm_law) (q_lv0 S) (q_cst q_lcut) (18, q_lst, [], X, 190, 10822) := by
  intro v' hv
  have e0 : v' 0 = 0 := hv 0 (by decide +kernel)
  have e1 : v' 1 = 0 := hv 1 (by decide +kernel)
  have e2 : v' 2 = 0 := hv 2 (by decide +kernel)
  have e3 : v' 3 = 0 := hv 3 (by decide +kernel)
  have e4 : v' 4 = (S 3072).toInt := hv 4 (by decide +kernel)
  simp only [q_startb, q_and_iff] at h
  obtain ⟨hi, z1, z2, z3, z4, z5, z6⟩ := h
  have inv := q_invb_ok hi hS
  have b0 : q_gi X 144 39 = 0 := by
    unfold q_gi
    rw [q_isz_ok z5]
    rfl
  have h0 : q_gi X 164 0 = 0 := by
    unfold q_gi
    rw [q_isz_ok z6]
    rfl
  have zero : ∀ {k j : Nat} {i : Nat}, k < 190 → q_isz X k j = true → v' i = 0 → q_rep v' (q_vi (Int.ofNat 0, [(i, Int.ofNat 1)])) (q_slot S X k j) := fun hk hz hi => by
    rw [q_slot_h hk, q_isz_ok hz]
    exact q_rep_vi ((q_ev_v _).trans hi)
  refine ⟨rfl, fun q hq => ?_, rfl, ⟨fun q hq => ?_, fun q hq => ?_, inv, fun _ _ _ _ => rfl, fun q hq => ?_, fun q hq => ?_⟩, rfl⟩
  · have hq : q ∈ [(0, (3, 90, (Int.ofNat 1000000, []), q_0)), (1, (3, 0, (Int.ofNat 0, []), q_0)), (2, (3, 44, (Int.ofNat 144, []), q_0)), (3, (1, 0, (Int.ofNat 0, [(0, Int.ofNat 1)]), q_0))] := hq
    rcases List.mem_cons.mp hq with e | hq
    · rw [e]
      exact ⟨.inl (.ref 1000000), rfl, q_rep_vr (q_evk _ _) (by decide +kernel)⟩
    · revert hq; intro hq
      rcases List.mem_cons.mp hq with e | hq
      · rw [e]
        exact ⟨.inl (.ref 0), rfl, q_rep_vr (q_evk _ _) (by decide +kernel)⟩
      · revert hq; intro hq
        rcases List.mem_cons.mp hq with e | hq
        · rw [e]
          exact ⟨.inl (.ref 144), rfl, q_rep_vr (q_evk _ _) (by decide +kernel)⟩
        · revert hq; intro hq
          rw [List.mem_singleton.mp hq]
          exact ⟨.inl (.int 0), rfl, q_rep_vi ((q_ev_v _).trans e0)⟩
  · have hq : q ∈ [(0, Int.ofNat 0, Int.ofNat 3072), (1, Int.ofNat 0, Int.ofNat 100000), (2, Int.ofNat 0, Int.ofNat 40), (3, Int.ofNat 0, Int.ofNat 40), (4, Int.ofNat 0, Int.ofNat 3072)] := hq
    rcases List.mem_cons.mp hq with e | hq
    · rw [e]
      show (0 : Int) ≤ v' 0 ∧ v' 0 ≤ (3072 : Int)
      rw [e0]
      decide
    · revert hq; intro hq
      rcases List.mem_cons.mp hq with e | hq
      · rw [e]
        show (0 : Int) ≤ v' 1 ∧ v' 1 ≤ (100000 : Int)
        rw [e1]
        decide
      · revert hq; intro hq
        rcases List.mem_cons.mp hq with e | hq
        · rw [e]
          show (0 : Int) ≤ v' 2 ∧ v' 2 ≤ (40 : Int)
          rw [e2]
          decide
        · revert hq; intro hq
          rcases List.mem_cons.mp hq with e | hq
          · rw [e]
            show (0 : Int) ≤ v' 3 ∧ v' 3 ≤ (40 : Int)
            rw [e3]
            decide
          · revert hq; intro hq
            rw [List.mem_singleton.mp hq]
            show (0 : Int) ≤ v' 4 ∧ v' 4 ≤ (3072 : Int)
            rw [e4]
            exact hS
  · have hq : q ∈ [(Int.ofNat 40, [(2, Int.negSucc 0), (3, Int.negSucc 0)])] := hq
    rw [List.mem_singleton.mp hq]
    show 0 ≤ (40 : Int) + (-1 * v' 2 + (-1 * v' 3 + 0))
    rw [e2, e3]
    decide
  · have hq : q ∈ [(70, (Int.ofNat 104, []), (Int.ofNat 7, []), (1, 0, (Int.ofNat 0, [(1, Int.ofNat 1)]), q_0)), (163, (Int.ofNat 144, []), (Int.ofNat 51, []), (1, 0, (Int.ofNat 0, [(2, Int.ofNat 1)]), q_0)), (164, (Int.ofNat 144, []), (Int.ofNat 52, []), (1, 0, (Int.ofNat 0, [(3, Int.ofNat 1)]), q_0)), (179, (Int.ofNat 144, []), (Int.ofNat 67, []), (1, 0, (Int.ofNat 0, [(1, Int.ofNat 1)]), q_0)), (227, (Int.ofNat 1000000, []), (Int.ofNat 3072, []), (1, 0, (Int.ofNat 0, [(4, Int.ofNat 1)]), q_0))] := hq
    rcases List.mem_cons.mp hq with e | hq
    · rw [e]
      exact ⟨104, 7, (q_evk _ _).symm, (q_evk _ _).symm, by decide +kernel, zero (by decide) z1 e1, Or.inl (by decide)⟩
    · revert hq; intro hq
      rcases List.mem_cons.mp hq with e | hq
      · rw [e]
        exact ⟨144, 51, (q_evk _ _).symm, (q_evk _ _).symm, by decide +kernel, zero (by decide) z3 e2, Or.inl (by decide)⟩
      · revert hq; intro hq
        rcases List.mem_cons.mp hq with e | hq
        · rw [e]
          exact ⟨144, 52, (q_evk _ _).symm, (q_evk _ _).symm, by decide +kernel, zero (by decide) z4 e3, Or.inl (by decide)⟩
        · revert hq; intro hq
          rcases List.mem_cons.mp hq with e | hq
          · rw [e]
            exact ⟨144, 67, (q_evk _ _).symm, (q_evk _ _).symm, by decide +kernel, zero (by decide) z2 e1, Or.inl (by decide)⟩
          · revert hq; intro hq
            rw [List.mem_singleton.mp hq]
            refine ⟨1000000, 3072, (q_evk _ _).symm, (q_evk _ _).symm, by decide +kernel, ?_, Or.inr rfl⟩
            rw [q_slot_s]
            exact q_rep_vi ((q_ev_v _).trans e4)
  · have hq : q ∈ [(4, [])] := hq
    rw [List.mem_singleton.mp hq]
    show q_HV (q_gi X 170) (q_gi X 162) (q_gi X 163) (q_gi X 164) (q_gi X 144 39)
    rw [b0]
    refine ⟨Or.inl rfl, fun hh => ?_⟩
    have hh : q_gi X 164 0 = 1 := hh
    omega
theorem q_law_loop {S : Nat → Int32} (hS : 0 ≤ (S 3072).toInt ∧ (S 3072).toInt ≤ 3072) {X : zH} (h : q_startb X = true) : zEnds S 123 zm_law (18, q_lst, [], X, 190, 10822) (fun r => r.1 = [] ∧ r.2.1 = some (.inl (.int 1))) := by
  have hd : q_ev (q_lv0 S) (q_dl qc_law) = 123 := q_evk _ _
  refine zEnds.mono (fun r hr => ?_) (q_cuts_ok (X0 := X) (v0 := q_lv0 S) q_bs zlo qk_lsc (by rw [hd]; exact Nat.le_refl _) (q_calls_ok S _) (q_all_ok qk_law) _ q_lcut (List.mem_singleton.mpr rfl) (q_lv0 S) _ (fun _ _ => rfl) (Nat.le_refl _) (q_law_gam hS h))
  obtain ⟨lf, hlf, v', _, r1, _, _, _, r2⟩ := hr
  have hlf : lf ∈ [(([], [], [], [], []), some (1, 0, (Int.ofNat 1, []), q_0))] := hlf
  rw [List.mem_singleton.mp hlf] at r2
  obtain ⟨z, z1, z2⟩ := r2
  obtain ⟨x, x1, x2⟩ := z2.1 rfl
  have x2 : x.toInt = 1 := x2.trans (q_evk _ _)
  refine ⟨r1, ?_⟩
  rw [z1, x1, show x = 1 from Int32.toInt_inj.mp x2]
theorem z_lmem {e : zE} (i : Nat) (h : (zm_c zm_law)[i]? = some e) : e ∈ zm_c zm_law := List.mem_of_getElem? h
theorem z_l1 {S : Nat → Int32} {d i : Nat} {L : zR → Prop} {F F' : zF} (e : zE) (hi : (zm_c zm_law)[i]? = some e) (hpc : e.1 = F.1) (hact : z_act S z_Ms zm_law e [] F = some (.inl ([], F'))) (h : zEnds S d zm_law F' L) : zEnds S d zm_law F L := zE_step zcls zcom z_Ms_ok zlo (z_lmem i hi) hpc hact ⟨rfl, h⟩
set_option maxRecDepth 100000 in
theorem q_law_ends {S : Nat → Int32} (hS : 0 ≤ (S 3072).toInt ∧ (S 3072).toInt ≤ 3072) : zEnds S 123 zm_law (0, [(0, .inl (.ref z_SCR))], [], z_hl [], 0, 0) (fun r => r.1 = [] ∧ r.2.1 = some (.inl (.int 1))) := by
  have hb := q_boot_ok
  obtain ⟨lv1, hl1, hb⟩ := q_ob_iff.mp (show q_ob (z_callN z_Ms 12 0 [.inl (.ref 0)] q_X1 []) (fun lv => q_all (fun r => q_and (z_nil r.1) (q_and (q_non r.2.1) (q_and (Nat.beq r.2.2.1 144) (q_boot2 r.2.2)))) lv) = true from hb)
  have hb := q_all_ok hb
  have none_of : ∀ {o : Option zV}, q_non o = true → o = none := fun {o} h => by
    cases o with
    | none => rfl
    | some _ => cases h
  have hN0 : z_Ms[0]? = some zm_0 := rfl
  have hN1 : z_Ms[53]? = some zm_53 := rfl
  have k1 := zE_con (S := S) (d := 12) zcls zcom z_Ms_ok hN0 (z_call_N (S := S) 12 _ _ _ _ _ hl1)
  refine z_l1 (i := 0) (F' := (3, [(0, .inl (.ref z_SCR))], [.inl (.ref 0)], q_X1, 1, 14)) (0, .new 7, 3, 10, 0) rfl rfl rfl ?_
  refine z_l1 (i := 1) (F' := (4, [(0, .inl (.ref z_SCR))], [.inl (.ref 0), .inl (.ref 0)], q_X1, 1, 14)) (3, .dup, 1, 0, 0) rfl rfl rfl ?_
  refine zE_step zcls zcom z_Ms_ok zlo (e := (4, .invokespecial 9, 3, 0, 0)) (o := .inr (.inr (.inr (0, [.inl (.ref 0)], [.inl (.ref 0)])))) (z_lmem 2 rfl) rfl rfl ⟨zm_0, _, 12, hN0, k1, by decide, fun r hr => ?_⟩
  obtain ⟨g1, g2⟩ := q_and_iff.mp (hb r hr)
  obtain ⟨g2, g3⟩ := q_and_iff.mp g2
  obtain ⟨g3, g4⟩ := q_and_iff.mp g3
  refine ⟨q_nil_iff.mp g1, ?_⟩
  rw [none_of g2]
  have g3 := q_beq_iff.mp g3
  obtain ⟨β1, o1, X2⟩ := r
  have g3 : X2.1 = 144 := g3
  refine z_l1 (i := 3) (F := (7, [(0, .inl (.ref z_SCR))], [.inl (.ref 0)], X2, Nat.add 1 (zm_mc zm_0), Nat.add 14 (zm_ms zm_0))) (F' := (8, z_put1 [(0, .inl (.ref z_SCR))] 1 (.inl (.ref 0)), [], X2, Nat.add 1 (zm_mc zm_0), Nat.add 14 (zm_ms zm_0))) (7, .astore_n 1, 1, 0, 0) rfl rfl rfl ?_
  refine z_l1 (i := 4) (F' := (11, z_put1 [(0, .inl (.ref z_SCR))] 1 (.inl (.ref 0)), [.inl (.ref 144)], z_hp X2 (some (.inr (11, z_new 11))), Nat.succ (Nat.add 1 (zm_mc zm_0)), Nat.add (Nat.add 14 (zm_ms zm_0)) 70)) (8, .new 10, 3, 11, 0) rfl rfl ?_ ?_
  · show z_if (Nat.blt X2.1 256) (z_if (Nat.ble (Nat.succ (Nat.add 1 (zm_mc zm_0))) (zm_mc zm_law)) (z_if (Nat.ble (Nat.add (Nat.add 14 (zm_ms zm_0)) (z_N 11)) (zm_ms zm_law)) (some (Sum.inl (([] : zB), (Nat.add 8 3, z_put1 [(0, .inl (.ref z_SCR))] 1 (.inl (.ref 0)), [.inl (.ref X2.1)], z_hp X2 (some (.inr (11, z_new 11))), Nat.succ (Nat.add 1 (zm_mc zm_0)), Nat.add (Nat.add 14 (zm_ms zm_0)) (z_N 11)))) : Option zO) none) none) none = _
    rw [g3]
    rfl
  refine z_l1 (i := 5) (F' := (12, z_put1 [(0, .inl (.ref z_SCR))] 1 (.inl (.ref 0)), [.inl (.ref 144), .inl (.ref 144)], z_hp X2 (some (.inr (11, z_new 11))), Nat.succ (Nat.add 1 (zm_mc zm_0)), Nat.add (Nat.add 14 (zm_ms zm_0)) 70)) (11, .dup, 1, 0, 0) rfl rfl rfl ?_
  obtain ⟨lv2, hl2, g4⟩ := q_ob_iff.mp (show q_ob (z_callN z_Ms 12 53 [.inl (.ref 144)] (z_hp X2 (some (.inr (11, z_new 11)))) []) (fun lv => q_all (fun r => q_and (z_nil r.1) (q_and (q_non r.2.1) (q_startb r.2.2))) lv) = true from g4)
  have g4 := q_all_ok g4
  have k2 := zE_con (S := S) (d := 12) zcls zcom z_Ms_ok hN1 (z_call_N (S := S) 12 _ _ _ _ _ hl2)
  refine zE_step zcls zcom z_Ms_ok zlo (e := (12, .invokespecial 12, 3, 53, 0)) (o := .inr (.inr (.inr (53, [.inl (.ref 144)], [.inl (.ref 144)])))) (z_lmem 6 rfl) rfl rfl ⟨zm_53, _, 12, hN1, k2, by decide, fun r hr => ?_⟩
  obtain ⟨f1, f2⟩ := q_and_iff.mp (g4 r hr)
  obtain ⟨f2, f3⟩ := q_and_iff.mp f2
  refine ⟨q_nil_iff.mp f1, ?_⟩
  rw [none_of f2]
  obtain ⟨β2, o2, X3⟩ := r
  refine z_l1 (i := 7) (F := (15, z_put1 [(0, .inl (.ref z_SCR))] 1 (.inl (.ref 0)), [.inl (.ref 144)], X3, Nat.add (Nat.succ (Nat.add 1 (zm_mc zm_0))) (zm_mc zm_53), Nat.add (Nat.add (Nat.add 14 (zm_ms zm_0)) 70) (zm_ms zm_53))) (F' := (16, z_put1 (z_put1 [(0, .inl (.ref z_SCR))] 1 (.inl (.ref 0))) 2 (.inl (.ref 144)), [], X3, Nat.add (Nat.succ (Nat.add 1 (zm_mc zm_0))) (zm_mc zm_53), Nat.add (Nat.add (Nat.add 14 (zm_ms zm_0)) 70) (zm_ms zm_53))) (15, .astore_n 2, 1, 0, 0) rfl rfl rfl ?_
  refine z_l1 (i := 8) (F' := (17, z_put1 (z_put1 [(0, .inl (.ref z_SCR))] 1 (.inl (.ref 0))) 2 (.inl (.ref 144)), [.inl (.int 0)], X3, Nat.add (Nat.succ (Nat.add 1 (zm_mc zm_0))) (zm_mc zm_53), Nat.add (Nat.add (Nat.add 14 (zm_ms zm_0)) 70) (zm_ms zm_53))) (16, .iconst 0, 1, 0, 0) rfl rfl rfl ?_
  refine z_l1 (i := 9) (F' := (18, q_lst, [], X3, Nat.add (Nat.succ (Nat.add 1 (zm_mc zm_0))) (zm_mc zm_53), Nat.add (Nat.add (Nat.add 14 (zm_ms zm_0)) 70) (zm_ms zm_53))) (17, .istore_n 3, 1, 0, 0) rfl rfl rfl ?_
  exact q_law_loop hS f3
