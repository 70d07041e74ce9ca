/-! the checker is sound: every instruction, runs, contracts -/
/-- what the tables must give -/
def q_base' (Ms : List zM) : Prop := zClsOk ∧ zComOk ∧ ∀ (k : Nat) (N : zM), Ms[k]? = some N → zMok Ms N
section
variable {S : Nat → Int32} {Ms : List zM} {Cd : List (List qCon)} {d : Nat} {M : zM} {X0 : zH} {n1 : Nat} {v0 v1 : Nat → Int} {e : zE} {C : qCon} {D : Int}
theorem q_stp_of {L : zR → Prop} (hb : q_base' Ms) (hM : ∀ e ∈ zm_c M, zEok Ms M e) (he : e ∈ zm_c M) : q_stp S Ms d M L e := fun F F' hpc hact hn => zE_step hb.1 hb.2.1 hb.2.2 hM he hpc.symm hact ⟨rfl, hn⟩
theorem q_rtp_of {L : zR → Prop} (hb : q_base' Ms) (hM : ∀ e ∈ zm_c M, zEok Ms M e) (he : e ∈ zm_c M) : q_rtp S Ms d M L e := fun F r hpc hact hn => zE_step hb.1 hb.2.1 hb.2.2 hM he hpc.symm hact hn
theorem q_ctp_of {L : zR → Prop} (hb : q_base' Ms) (hM : ∀ e ∈ zm_c M, zEok Ms M e) (he : e ∈ zm_c M) : q_ctp S Ms d M L e := fun F q hpc hact hn => zE_step hb.1 hb.2.1 hb.2.2 hM he hpc.symm hact hn
theorem q_rg_i {k : Nat} {v : Nat → Int} {l : qL} {x : Int32} (h : ∀ v, q_ev v l = x.toInt) : q_rg k v (q_vi l) (.inl (.int x)) := q_rg_vi fun v' _ => h v'
theorem q_kI_ok {L : zR → Prop} {m n : Nat} {lo hi k : Int} {x : Int32} (hs : q_stp S Ms d M L e) (he : z_act S Ms M e = z_aK n (.inl (.int x))) (hx : lo ≤ k → k ≤ hi → x.toInt = k) : q_aok S Ms d M L X0 m n1 v1 e (q_kI n lo hi k) := by
  intro K A v F h hK hn hv hg hpc
  simp only [q_kI, q_and_iff, q_fi_eq] at h
  obtain ⟨h1, h2, h⟩ := h
  have ex := hx (q_le_ok.mp h1) (q_le_ok.mp h2)
  exact q_aK_ok hs he (fun _ _ => q_rg_vi (by rw [ex]; exact q_den.c _)) K A v F h hK hn hv hg hpc
theorem q_s32_ok {a : Nat} (h : a < 4294967296) : (Int32.ofNat a).toInt = q_s32 a := by
  have e : (Int32.ofNat a).toBitVec.toNat = a := by
    show (BitVec.ofNat 32 a).toNat = a
    rw [BitVec.toNat_ofNat, Nat.mod_eq_of_lt h]
  show _ = z_if (Nat.blt a 2147483648) (Int.ofNat a) (Int.sub (Int.ofNat a) (Int.ofNat 4294967296))
  cases hb : Nat.blt a 2147483648 with
  | true =>
    have := z_blt hb
    rw [q_natof (by rw [e]; exact this), e]
    rfl
  | false =>
    have := z_nblt hb
    have h2 : (Int32.ofNat a).toInt < 0 := by
      have e1 : (Int32.ofNat a).toInt = (Int32.ofNat a).toBitVec.toInt := rfl
      rw [e1, BitVec.toInt_eq_toNat_cond, e, if_neg (by omega)]
      have : ((2 ^ 32 : Nat) : Int) = 4294967296 := rfl
      omega
    rw [q_natneg h2, e]
    rfl
theorem q_s64_ok {a : Nat} (h : a < 18446744073709551616) : (Int64.ofNat a).toInt = q_s64 a := by
  have e : (Int64.ofNat a).toBitVec.toNat = a := by
    show (BitVec.ofNat 64 a).toNat = a
    rw [BitVec.toNat_ofNat, Nat.mod_eq_of_lt h]
  have e1 : (Int64.ofNat a).toInt = (Int64.ofNat a).toBitVec.toInt := rfl
  show _ = z_if (Nat.blt a 9223372036854775808) (Int.ofNat a) (Int.sub (Int.ofNat a) (Int.ofNat 18446744073709551616))
  cases hb : Nat.blt a 9223372036854775808 with
  | true =>
    have := z_blt hb
    rw [e1, BitVec.toInt_eq_toNat_cond, e, if_pos (by omega)]
    rfl
  | false =>
    have := z_nblt hb
    rw [e1, BitVec.toInt_eq_toNat_cond, e, if_neg (by omega)]
    rfl
theorem q_kN_ok {L : zR → Prop} {m n a : Nat} (hs : q_stp S Ms d M L e) (he : z_act S Ms M e = z_aK n (.inl (.int (Int32.ofNat a)))) : q_aok S Ms d M L X0 m n1 v1 e (q_kN n a) := by
  intro K A v F h hK hn hv hg hpc
  simp only [q_kN, q_and_iff, q_fi_eq] at h
  obtain ⟨h1, h⟩ := h
  exact q_aK_ok hs he (fun _ _ => q_rg_vi (by rw [q_s32_ok (z_blt h1)]; exact q_den.c _)) K A v F h hK hn hv hg hpc
theorem q_kL_ok {L : zR → Prop} {m n a : Nat} (hs : q_stp S Ms d M L e) (he : z_act S Ms M e = z_aK n (.inl (.long (Int64.ofNat a)))) : q_aok S Ms d M L X0 m n1 v1 e (q_kL n a) := by
  intro K A v F h hK hn hv hg hpc
  simp only [q_kL, q_and_iff, q_fi_eq] at h
  obtain ⟨h1, h⟩ := h
  exact q_aK_ok hs he (fun _ _ => q_rg_vl (by rw [q_s64_ok (z_blt h1)]; exact q_den.c _)) K A v F h hK hn hv hg hpc
/-- the calls that may be made here, each a contract of less depth -/
def q_calls (S : Nat → Int32) (Ms : List zM) (Cd : List (List qCon)) (D : Int) : Prop := ∀ (a1 : Nat) (N : zM), Ms[a1]? = some N → ∀ C ∈ (Cd[a1]?).getD [], ∀ (v0 : Nat → Int) (cas : List zV) (X : zH), q_entry S C v0 cas X → 1 ≤ q_ev v0 (q_dl C) → q_ev v0 (q_dl C) + 1 ≤ D → zCalled S (q_ev v0 (q_dl C)).toNat N cas X (q_LC S C X v0)
theorem q_inv_ok {L : zR → Prop} {kind a1 a2 : Nat} (hb : q_base' Ms) (hM : ∀ e ∈ zm_c M, zEok Ms M e) (he : e ∈ zm_c M) (hz : z_act S Ms M e = z_inv Ms M kind a1 a2) (hd : q_den n1 v1 (q_dl C) D) (hD : D.toNat ≤ d) (hc : q_calls S Ms Cd D) : q_aok S Ms d M L X0 (q_mod C) n1 v1 e (q_inv' Ms Cd C kind a1 a2) := by
  have call : ∀ {N : zM}, Ms[a1]? = some N → z_act S Ms M e = z_aInv kind a1 (zm_np N) (zm_mc N) (zm_ms N) (zm_ci N) (zm_mc M) (zm_ms M) → q_aok S Ms d M L X0 (q_mod C) n1 v1 e (z_if (q_and (Nat.beq (zm_mc N) 0) (Nat.beq (zm_ms N) 0)) (q_aCall kind (zm_ci N) (zm_np N) (q_mod C) (q_dl C) ((Cd[a1]?).getD [])) q_no) := fun {N} hN hz => by
    cases h0 : q_and (Nat.beq (zm_mc N) 0) (Nat.beq (zm_ms N) 0) with
    | false => exact q_no_ok
    | true =>
      obtain ⟨h1, h2⟩ := q_and_iff.mp h0
      exact q_aCall_ok (q_ctp_of hb hM he) hN ⟨q_beq_iff.mp h1, q_beq_iff.mp h2⟩ hz hd hD (hc a1 N hN)
  match a2, hz with
  | 2, _ => exact q_no_ok
  | 3, hz => exact q_aCpy_ok (q_stp_of hb hM he) hz
  | 4, hz => exact q_aMin_ok (q_stp_of hb hM he) hz
  | 5, hz => exact q_aMax_ok (q_stp_of hb hM he) hz
  | 6, hz => exact q_aAbs_ok (q_stp_of hb hM he) hz
  | 0, hz =>
    show q_aok S Ms d M L X0 (q_mod C) n1 v1 e (match Ms[a1]? with | some N => _ | none => q_no)
    cases hN : Ms[a1]? with
    | none => exact q_no_ok
    | some N =>
      refine call hN ?_
      rw [hz]
      show (match Ms[a1]? with | some N => _ | none => _) = _
      rw [hN]
  | 1, hz =>
    show q_aok S Ms d M L X0 (q_mod C) n1 v1 e (match Ms[a1]? with | some N => _ | none => q_no)
    cases hN : Ms[a1]? with
    | none => exact q_no_ok
    | some N =>
      refine call hN ?_
      rw [hz]
      show (match Ms[a1]? with | some N => _ | none => _) = _
      rw [hN]
  | n + 7, hz =>
    show q_aok S Ms d M L X0 (q_mod C) n1 v1 e (match Ms[a1]? with | some N => _ | none => q_no)
    cases hN : Ms[a1]? with
    | none => exact q_no_ok
    | some N =>
      refine call hN ?_
      rw [hz]
      show (match Ms[a1]? with | some N => _ | none => _) = _
      rw [hN]
end
