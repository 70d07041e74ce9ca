/-! the law from its entry -/
theorem z_lwin (k j : Nat) {w : Cond} (h : z_nth (z_tb k) j = some w) : w ∈ lw_tbl := by
  rw [z_nth_eq] at h
  exact z_tb_in (List.mem_of_getElem? h)
theorem zn_ok : ∀ q ∈ z_nq, Cond.methodLinkNest q.1 q.2.1 q.2.2.1 q.2.2.2 ∈ lw_tbl := List.forall_mem_cons.mpr ⟨(z_lwin 1 31 (by decide +kernel)), List.forall_mem_cons.mpr ⟨(z_lwin 1 192 (by decide +kernel)), List.forall_mem_cons.mpr ⟨(z_lwin 1 205 (by decide +kernel)), List.forall_mem_cons.mpr ⟨(z_lwin 1 223 (by decide +kernel)), List.forall_mem_cons.mpr ⟨(z_lwin 2 14 (by decide +kernel)), List.forall_mem_cons.mpr ⟨(z_lwin 2 50 (by decide +kernel)), List.forall_mem_cons.mpr ⟨(z_lwin 2 56 (by decide +kernel)), List.forall_mem_cons.mpr ⟨(z_lwin 4 45 (by decide +kernel)), fun _ h => absurd h List.not_mem_nil⟩⟩⟩⟩⟩⟩⟩⟩
theorem z_WS_lw {w : Cond} (h : w ∈ z_WS) : w ∈ lw_tbl := (List.mem_filter.mp h).1
/-- what the Statement gives of the start -/
noncomputable def z_fl : List Cond := flatC (Jvm.Cond.and given_1 narrow_1)
theorem z_fin (j : Nat) {w : Cond} (h : z_nth z_fl j = some w) : w ∈ flatC (Jvm.Cond.and given_1 narrow_1) := by
  rw [z_nth_eq] at h
  exact List.mem_of_getElem? h
abbrev z_tm13 : Term := .string "FarBank$Scan" 13
theorem z_fel : ∀ j, j < 106 → z_nth z_fl (13 + j) = some (Cond.eq (.elem (.field z_tm13 "java/lang/String" "value" "[B") (.int (Int32.ofNat j))) (.int (z_txt.getD j 0))) := by decide +kernel
theorem z_str {b : Nat} {s : State} (hgv : (Jvm.Cond.and given_1 narrow_1).before #[Value.ref b] s = true) : ∃ adK adV : Nat → Nat, vk_S 1 [106] [z_txt] adK adV (fun q => s.heap.size ≤ q) s s.heap ∧ ∀ i : Nat, i < 1 → z_tm13.eval #[Value.ref b] s none [] s = some (.ref (adK i)) := by
  have hs := flat_of_before _ hgv
  refine vk_Sof (N := 1) (len := [106]) (byt := [z_txt]) (A := fun q => s.heap.size ≤ q) (tm := fun _ => z_tm13) (fun i hi => ?_) (fun i hi => hs _ (z_fin 9 (by decide +kernel))) (fun i hi => hs _ (z_fin 10 (by decide +kernel))) (fun i hi => hs _ (z_fin 11 (by decide +kernel))) (fun i hi => ?_) (fun i hi j hj => ?_) (fun i j hi hj h => absurd (show i = j by omega) h) (fun a h => Nat.not_le.mpr h)
  · rcases (show i = 0 by omega) with rfl
    decide
  · rcases (show i = 0 by omega) with rfl
    exact hs _ (z_fin 12 (by decide +kernel))
  · rcases (show i = 0 by omega) with rfl
    exact hs _ (z_fin (13 + j) (z_fel j hj))
abbrev z_tm58 : Term := .string "FarBank$Scan" 58
theorem z_fel2 : ∀ j, j < 11 → z_nth z_fl (123 + j) = some (Cond.eq (.elem (.field z_tm58 "java/lang/String" "value" "[B") (.int (Int32.ofNat j))) (.int (z_sgn.getD j 0))) := by decide +kernel
theorem z_str2 {b : Nat} {s : State} (hgv : (Jvm.Cond.and given_1 narrow_1).before #[Value.ref b] s = true) : ∃ adK adV : Nat → Nat, vk_S 1 [11] [z_sgn] adK adV (fun q => s.heap.size ≤ q) s s.heap ∧ ∀ i : Nat, i < 1 → z_tm58.eval #[Value.ref b] s none [] s = some (.ref (adK i)) := by
  have hs := flat_of_before _ hgv
  refine vk_Sof (N := 1) (len := [11]) (byt := [z_sgn]) (A := fun q => s.heap.size ≤ q) (tm := fun _ => z_tm58) (fun i hi => ?_) (fun i hi => hs _ (z_fin 119 (by decide +kernel))) (fun i hi => hs _ (z_fin 120 (by decide +kernel))) (fun i hi => hs _ (z_fin 121 (by decide +kernel))) (fun i hi => ?_) (fun i hi j hj => ?_) (fun i j hi hj h => absurd (show i = j by omega) h) (fun a h => Nat.not_le.mpr h)
  · rcases (show i = 0 by omega) with rfl
    decide
  · rcases (show i = 0 by omega) with rfl
    exact hs _ (z_fin 122 (by decide +kernel))
  · rcases (show i = 0 by omega) with rfl
    exact hs _ (z_fin (123 + j) (z_fel2 j hj))
theorem z_arrs {args : Array Value} {s : State} {ty : FieldType} (h : (Cond.arrayClass ty).before args s = true) : ∃ cA : ClassId, ArrOfT s cA ty ∧ s.vm.findClass ("[" ++ ty.toString) = some cA := by
  obtain ⟨cA, kA, comp, h1, h2, h3⟩ := Cond.arrayClass_spec h
  exact ⟨cA, fun N z => ⟨(fun k h => by cases h), kA, h2, comp, h3⟩, h1⟩
set_option maxRecDepth 100000 in
/-- the surroundings at the law's entry -/
theorem z_env {s : State} {b L : Nat} {xs : Nat → Int32} (hL : L ≤ 3072) (hts : ∀ w ∈ lw_tbl, w.before #[Value.ref b] s = true) (hX : va_X b L xs s s.heap) (hbl : b < s.heap.size) (hgv : (Jvm.Cond.and given_1 narrow_1).before #[Value.ref b] s = true) :
    ∃ E : zG, zFix E ∧ zEnv E s ∧ zg_n E = s.heap.size ∧ zg_H E = s.heap ∧ zg_a E z_SCR = b ∧ 0 ≤ (zg_r E 3072).toInt ∧ (zg_r E 3072).toInt ≤ 3072 := by
  have hs := flat_of_before _ hgv
  have hA : ∀ a : Nat, a < s.heap.size → ¬ (fun q => s.heap.size ≤ q) a := fun a h => Nat.not_le.mpr h
  obtain ⟨adK, adV, hS, hK⟩ := z_str hgv
  obtain ⟨s1, s2, s3, s4⟩ := hS.1 0 (by omega)
  obtain ⟨adK2, adV2, hS2, hK2⟩ := z_str2 hgv
  obtain ⟨t1, t2, t3, t4⟩ := hS2.1 0 (by omega)
  have hZ1 := va_Zof (A := fun q => s.heap.size ≤ q) (hts _ (z_lwin 1 51 (by decide +kernel))) (hts _ (z_lwin 1 4 (by decide +kernel))) (va_eqi (hs (Cond.eq (.static "java/lang/String" "COMPACT_STRINGS" "Z") (.int 1)) (z_fin 4 (by decide +kernel)))) hA
  have hZ2 := va_Zqof (A := fun q => s.heap.size ≤ q) (hts _ (z_lwin 1 67 (by decide +kernel))) (hts _ (z_lwin 1 6 (by decide +kernel))) (hs (Cond.isRef (.static "jdk/internal/util/Preconditions" "SIOOBE_FORMATTER" "Ljava/util/function/BiFunction;")) (z_fin 5 (by decide +kernel))) hA
  obtain ⟨fv, hfv, hfc⟩ : ∃ fv : Value, va_Z "jdk/internal/util/Preconditions" "SIOOBE_FORMATTER" "Ljava/util/function/BiFunction;" fv (fun q => s.heap.size ≤ q) s s.heap ∧ fv.category = 1 := by
    rcases hZ2 with h | ⟨t, h⟩
    · exact ⟨_, h, rfl⟩
    · exact ⟨_, h, rfl⟩
  have hcl : ∀ k : Nat, ∃ q : ClassId × (Nat → Nat), k < 12 → u_Kn s (z_cw k).1 (z_cw k).2.1 (z_cw k).2.2 q.1 q.2 := by
    intro k
    by_cases h : k < 12
    · obtain ⟨k1, -, -, k4, -⟩ := zcls k (z_cl12 h)
      obtain ⟨cC, iS, hk⟩ := u_known (ws := lw_tbl) hts (fun w hw => z_WS_lw (k1 w hw)) (hts _ (z_WS_lw k4))
      exact ⟨(cC, iS), fun _ => hk⟩
    · exact ⟨(0, fun _ => 0), fun h2 => absurd h2 h⟩
  obtain ⟨dc, hdc⟩ := Classical.axiomOfChoice hcl
  obtain ⟨a0, p0, q0⟩ := z_arrs (hts (.arrayClass .int) (z_lwin 1 179 (by decide +kernel)))
  obtain ⟨a1, p1, q1⟩ := z_arrs (hts (.arrayClass .byte) (z_lwin 1 120 (by decide +kernel)))
  obtain ⟨a2, p2, q2⟩ := z_arrs (hts (.arrayClass .boolean) (z_lwin 2 45 (by decide +kernel)))
  obtain ⟨a3, p3, q3⟩ := z_arrs (hts (.arrayClass .long) (z_lwin 1 121 (by decide +kernel)))
  have hao : va_AO "FarBank$State" s := va_AO.of (A := #[Value.ref b]) (hts (.arrayOver (.object "FarBank$State")) (z_lwin 1 165 (by decide +kernel)))
  obtain ⟨comp, a4, k4, r1, r2, r3, r4, r5⟩ := Cond.arrayOver_spec (args := #[]) (first := s) (s := s) (o := none) (idx := []) (n := "FarBank$State") hao
  refine ⟨(fun i => if i = 3072 then Int32.ofNat L else xs i, fun k => if k = z_SCR then b else if k = z_STR then adK 0 else if k = z_STV then adV 0 else if k = z_STR2 then adK2 0 else if k = z_STV2 then adV2 0 else s.heap.size + k, fv, fun t => if t = 0 then a0 else if t = 1 then a1 else if t = 2 then a2 else if t = 3 then a3 else a4, fun k => (dc k).1, fun k => (dc k).2, s.heap.size, s.heap), ⟨?_, rfl, fun k hk => ?_, hfc⟩, ⟨⟨fun k q hq => ?_, fun k q hq => ?_⟩, fun q hq => va_Nw.of rfl (hts _ (zn_ok q hq)), hao, ?_, hZ1, hfv, s1, s2, s3, s4, ⟨?_, t1, t2, t3, t4⟩, L, hL, ?_, rfl⟩, rfl, rfl, rfl, ?_⟩
  · exact hbl
  · show (if k = z_SCR then b else if k = z_STR then adK 0 else if k = z_STV then adV 0 else if k = z_STR2 then adK2 0 else if k = z_STV2 then adV2 0 else s.heap.size + k) = s.heap.size + k
    rw [if_neg (by show ¬ k = 1000000; omega), if_neg (by show ¬ k = 1000001; omega), if_neg (by show ¬ k = 1000002; omega), if_neg (by show ¬ k = 1000003; omega), if_neg (by show ¬ k = 1000004; omega)]
  · have hk : k < 12 := (List.getElem?_eq_some_iff.mp hq).1
    have e : z_cw k = q := Option.some.inj ((z_cl12 hk).symm.trans hq)
    rw [← e]
    exact hdc k hk
  · have hk : k < 5 := (List.getElem?_eq_some_iff.mp hq).1
    rcases (show k = 0 ∨ k = 1 ∨ k = 2 ∨ k = 3 ∨ k = 4 by omega) with rfl | rfl | rfl | rfl | rfl
    · cases hq; exact ⟨p0, q0⟩
    · cases hq; exact ⟨p1, q1⟩
    · cases hq; exact ⟨p2, q2⟩
    · cases hq; exact ⟨p3, q3⟩
    · cases hq; exact ⟨fun N z => ⟨(fun k h => by cases h), k4, r3, comp, r4⟩, k4, comp, r3, r4, r1, r5⟩
  · exact vk_R.of (A := #[Value.ref b]) (hts (.stringRef "FarBank$Scan" 13 z_T) (z_lwin 1 41 (by decide +kernel))) (hK 0 (by omega))
  · exact vk_R.of (A := #[Value.ref b]) (hts (.stringRef "FarBank$Scan" 58 z_T2) (z_lwin 3 9 (by decide +kernel))) (hK2 0 (by omega))
  · obtain ⟨scr, x1, x2, x3, x4, x5⟩ := hX
    refine ⟨scr, x1, x2, x3, x4, fun j hj => ?_⟩
    show scr.slots[j]? = some (.int (if j = 3072 then Int32.ofNat L else xs j))
    rw [if_neg (by omega)]
    exact x5 j hj
  · show 0 ≤ (Int32.ofNat L).toInt ∧ (Int32.ofNat L).toInt ≤ 3072
    have b3 : (Int32.ofNat L).toInt = (L : Int) := nI_toInt (show L < 2 ^ 31 by omega)
    rw [b3]
    omega
