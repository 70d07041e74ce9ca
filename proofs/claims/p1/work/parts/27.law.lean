/-! the law's run -/
theorem zlo : ∀ e ∈ zm_c zm_law, zEok z_Ms zm_law e := List.forall_mem_append.mpr ⟨zlo_0, List.forall_mem_append.mpr ⟨zlo_1, List.forall_mem_append.mpr ⟨zlo_2, List.forall_mem_append.mpr ⟨zlo_3, List.forall_mem_append.mpr ⟨zlo_4, List.forall_mem_append.mpr ⟨zlo_5, List.forall_mem_append.mpr ⟨zlo_6, List.forall_mem_append.mpr ⟨zlo_7, List.forall_mem_append.mpr ⟨zlo_8, List.forall_mem_append.mpr ⟨zlo_9, List.forall_mem_append.mpr ⟨zlo_10, List.forall_mem_append.mpr ⟨zlo_11, List.forall_mem_append.mpr ⟨zlo_12, List.forall_mem_append.mpr ⟨zlo_13, List.forall_mem_append.mpr ⟨zlo_14, List.forall_mem_append.mpr ⟨zlo_15, List.forall_mem_append.mpr ⟨zlo_16, List.forall_mem_append.mpr ⟨zlo_17, List.forall_mem_append.mpr ⟨zlo_18, List.forall_mem_append.mpr ⟨zlo_19, List.forall_mem_append.mpr ⟨zlo_20, List.forall_mem_append.mpr ⟨zlo_21, List.forall_mem_append.mpr ⟨zlo_22, List.forall_mem_append.mpr ⟨zlo_23, List.forall_mem_append.mpr ⟨zlo_24, zlo_25⟩⟩⟩⟩⟩⟩⟩⟩⟩⟩⟩⟩⟩⟩⟩⟩⟩⟩⟩⟩⟩⟩⟩⟩⟩
def z_TX_0 : List zY := [ze_0, ze_2, ze_4, ze_6, ze_8, ze_10, ze_12, ze_14, ze_16, ze_18, ze_20, ze_22, ze_24, ze_26, ze_28, ze_30]
theorem z_TX_ok0 : ∀ y ∈ z_TX_0, z_chkX y = true := List.forall_mem_cons.mpr ⟨zr_0, List.forall_mem_cons.mpr ⟨zr_2, List.forall_mem_cons.mpr ⟨zr_4, List.forall_mem_cons.mpr ⟨zr_6, List.forall_mem_cons.mpr ⟨zr_8, List.forall_mem_cons.mpr ⟨zr_10, List.forall_mem_cons.mpr ⟨zr_12, List.forall_mem_cons.mpr ⟨zr_14, List.forall_mem_cons.mpr ⟨zr_16, List.forall_mem_cons.mpr ⟨zr_18, List.forall_mem_cons.mpr ⟨zr_20, List.forall_mem_cons.mpr ⟨zr_22, List.forall_mem_cons.mpr ⟨zr_24, List.forall_mem_cons.mpr ⟨zr_26, List.forall_mem_cons.mpr ⟨zr_28, List.forall_mem_cons.mpr ⟨zr_30, fun _ h => absurd h List.not_mem_nil⟩⟩⟩⟩⟩⟩⟩⟩⟩⟩⟩⟩⟩⟩⟩⟩
def z_TX_1 : List zY := [ze_32, ze_34, ze_36, ze_38, ze_40, ze_42, ze_44, ze_46, ze_48, ze_50, ze_52, ze_54, ze_56, ze_58, ze_60, ze_62]
theorem z_TX_ok1 : ∀ y ∈ z_TX_1, z_chkX y = true := List.forall_mem_cons.mpr ⟨zr_32, List.forall_mem_cons.mpr ⟨zr_34, List.forall_mem_cons.mpr ⟨zr_36, List.forall_mem_cons.mpr ⟨zr_38, List.forall_mem_cons.mpr ⟨zr_40, List.forall_mem_cons.mpr ⟨zr_42, List.forall_mem_cons.mpr ⟨zr_44, List.forall_mem_cons.mpr ⟨zr_46, List.forall_mem_cons.mpr ⟨zr_48, List.forall_mem_cons.mpr ⟨zr_50, List.forall_mem_cons.mpr ⟨zr_52, List.forall_mem_cons.mpr ⟨zr_54, List.forall_mem_cons.mpr ⟨zr_56, List.forall_mem_cons.mpr ⟨zr_58, List.forall_mem_cons.mpr ⟨zr_60, List.forall_mem_cons.mpr ⟨zr_62, fun _ h => absurd h List.not_mem_nil⟩⟩⟩⟩⟩⟩⟩⟩⟩⟩⟩⟩⟩⟩⟩⟩
def z_TX_2 : List zY := [ze_64, ze_66, ze_68, ze_70, ze_72, ze_74, ze_76, ze_78, ze_80, ze_82, ze_84, ze_86, ze_88, ze_90, ze_92, ze_94]
theorem z_TX_ok2 : ∀ y ∈ z_TX_2, z_chkX y = true := List.forall_mem_cons.mpr ⟨zr_64, List.forall_mem_cons.mpr ⟨zr_66, List.forall_mem_cons.mpr ⟨zr_68, List.forall_mem_cons.mpr ⟨zr_70, List.forall_mem_cons.mpr ⟨zr_72, List.forall_mem_cons.mpr ⟨zr_74, List.forall_mem_cons.mpr ⟨zr_76, List.forall_mem_cons.mpr ⟨zr_78, List.forall_mem_cons.mpr ⟨zr_80, List.forall_mem_cons.mpr ⟨zr_82, List.forall_mem_cons.mpr ⟨zr_84, List.forall_mem_cons.mpr ⟨zr_86, List.forall_mem_cons.mpr ⟨zr_88, List.forall_mem_cons.mpr ⟨zr_90, List.forall_mem_cons.mpr ⟨zr_92, List.forall_mem_cons.mpr ⟨zr_94, fun _ h => absurd h List.not_mem_nil⟩⟩⟩⟩⟩⟩⟩⟩⟩⟩⟩⟩⟩⟩⟩⟩
def z_TX_3 : List zY := [ze_96]
theorem z_TX_ok3 : ∀ y ∈ z_TX_3, z_chkX y = true := List.forall_mem_cons.mpr ⟨zr_96, fun _ h => absurd h List.not_mem_nil⟩
def z_TX : List zY := z_TX_0 ++ (z_TX_1 ++ (z_TX_2 ++ (z_TX_3)))
theorem z_TX_ok : ∀ y ∈ z_TX, z_chkX y = true := List.forall_mem_append.mpr ⟨z_TX_ok0, List.forall_mem_append.mpr ⟨z_TX_ok1, List.forall_mem_append.mpr ⟨z_TX_ok2, z_TX_ok3⟩⟩⟩
def z_TM_0 : List zY := [ze_1, ze_3, ze_5, ze_7, ze_9, ze_11, ze_13, ze_15, ze_17, ze_19, ze_21, ze_23, ze_25, ze_27, ze_29, ze_31]
theorem z_TM_ok0 : ∀ y ∈ z_TM_0, z_chkM y = true := List.forall_mem_cons.mpr ⟨zr_1, List.forall_mem_cons.mpr ⟨zr_3, List.forall_mem_cons.mpr ⟨zr_5, List.forall_mem_cons.mpr ⟨zr_7, List.forall_mem_cons.mpr ⟨zr_9, List.forall_mem_cons.mpr ⟨zr_11, List.forall_mem_cons.mpr ⟨zr_13, List.forall_mem_cons.mpr ⟨zr_15, List.forall_mem_cons.mpr ⟨zr_17, List.forall_mem_cons.mpr ⟨zr_19, List.forall_mem_cons.mpr ⟨zr_21, List.forall_mem_cons.mpr ⟨zr_23, List.forall_mem_cons.mpr ⟨zr_25, List.forall_mem_cons.mpr ⟨zr_27, List.forall_mem_cons.mpr ⟨zr_29, List.forall_mem_cons.mpr ⟨zr_31, fun _ h => absurd h List.not_mem_nil⟩⟩⟩⟩⟩⟩⟩⟩⟩⟩⟩⟩⟩⟩⟩⟩
def z_TM_1 : List zY := [ze_33, ze_35, ze_37, ze_39, ze_41, ze_43, ze_45, ze_47, ze_49, ze_51, ze_53, ze_55, ze_57, ze_59, ze_61, ze_63]
theorem z_TM_ok1 : ∀ y ∈ z_TM_1, z_chkM y = true := List.forall_mem_cons.mpr ⟨zr_33, List.forall_mem_cons.mpr ⟨zr_35, List.forall_mem_cons.mpr ⟨zr_37, List.forall_mem_cons.mpr ⟨zr_39, List.forall_mem_cons.mpr ⟨zr_41, List.forall_mem_cons.mpr ⟨zr_43, List.forall_mem_cons.mpr ⟨zr_45, List.forall_mem_cons.mpr ⟨zr_47, List.forall_mem_cons.mpr ⟨zr_49, List.forall_mem_cons.mpr ⟨zr_51, List.forall_mem_cons.mpr ⟨zr_53, List.forall_mem_cons.mpr ⟨zr_55, List.forall_mem_cons.mpr ⟨zr_57, List.forall_mem_cons.mpr ⟨zr_59, List.forall_mem_cons.mpr ⟨zr_61, List.forall_mem_cons.mpr ⟨zr_63, fun _ h => absurd h List.not_mem_nil⟩⟩⟩⟩⟩⟩⟩⟩⟩⟩⟩⟩⟩⟩⟩⟩
def z_TM_2 : List zY := [ze_65, ze_67, ze_69, ze_71, ze_73, ze_75, ze_77, ze_79, ze_81, ze_83, ze_85, ze_87, ze_89, ze_91, ze_93, ze_95]
theorem z_TM_ok2 : ∀ y ∈ z_TM_2, z_chkM y = true := List.forall_mem_cons.mpr ⟨zr_65, List.forall_mem_cons.mpr ⟨zr_67, List.forall_mem_cons.mpr ⟨zr_69, List.forall_mem_cons.mpr ⟨zr_71, List.forall_mem_cons.mpr ⟨zr_73, List.forall_mem_cons.mpr ⟨zr_75, List.forall_mem_cons.mpr ⟨zr_77, List.forall_mem_cons.mpr ⟨zr_79, List.forall_mem_cons.mpr ⟨zr_81, List.forall_mem_cons.mpr ⟨zr_83, List.forall_mem_cons.mpr ⟨zr_85, List.forall_mem_cons.mpr ⟨zr_87, List.forall_mem_cons.mpr ⟨zr_89, List.forall_mem_cons.mpr ⟨zr_91, List.forall_mem_cons.mpr ⟨zr_93, List.forall_mem_cons.mpr ⟨zr_95, fun _ h => absurd h List.not_mem_nil⟩⟩⟩⟩⟩⟩⟩⟩⟩⟩⟩⟩⟩⟩⟩⟩
def z_TM_3 : List zY := [ze_97]
theorem z_TM_ok3 : ∀ y ∈ z_TM_3, z_chkM y = true := List.forall_mem_cons.mpr ⟨zr_97, fun _ h => absurd h List.not_mem_nil⟩
def z_TM : List zY := z_TM_0 ++ (z_TM_1 ++ (z_TM_2 ++ (z_TM_3)))
theorem z_TM_ok : ∀ y ∈ z_TM, z_chkM y = true := List.forall_mem_append.mpr ⟨z_TM_ok0, List.forall_mem_append.mpr ⟨z_TM_ok1, List.forall_mem_append.mpr ⟨z_TM_ok2, z_TM_ok3⟩⟩⟩
noncomputable def z_LC : zCall := fun mi as X β =>
  z_if (Nat.beq mi 68) (z_if (z_sameL z_sameV as [.inl (.ref 0)]) (z_if (z_isH X z_LX) (some [(β, none, z_hl z_LA)]) none) none)
    (z_if (Nat.beq mi 76) (z_if (z_sameL z_sameV as [.inl (.ref 144)]) (z_if (z_isH X z_LY) (some [(β, none, z_hl z_LB)]) none) none)
      (z_look z_TX mi as (fun y => z_if (z_isH X (z_LA ++ z_LM)) (some (z_lvs y.2.2 β z_XM)) none) (z_look z_TM mi as (fun y => z_if (z_isH X (z_hA ++ z_LM)) (some (z_lvs y.2.2 β z_X0)) none) none)))
theorem z_LC_ok {l : Launch} {E : zG} (hFx : zFix E) (mi : Nat) (as : List zV) (X : zH) (β : zB) (lv : List zR) (N : zM) (h : z_LC mi as X β = some lv) (hβ : zok (zg_r E) β) (hN : z_Ms[mi]? = some N) : zMet l E (fun _ => True) 12 N as X lv := by
  have h : z_if (Nat.beq mi 68) _ _ = some lv := h
  cases e1 : Nat.beq mi 68 with
  | true =>
    rw [e1] at h
    obtain ⟨h1, h⟩ := z_if_some (show z_if (z_sameL z_sameV as [.inl (.ref 0)]) _ none = some lv from h)
    obtain ⟨h2, h⟩ := z_if_some h
    cases h
    rw [z_beq e1] at hN
    rw [z_sameL_ok (fun _ _ => z_sameV_ok) h1]
    exact zmI (mi := 68) (as := [.inl (.ref 0)]) (l0 := z_LX) (l1 := z_LA) hFx (Nat.le_of_ble_eq_true rfl) (by rw [z_len5]; decide) zi_X hN h2 hβ
  | false =>
    rw [e1] at h
    have h : z_if (Nat.beq mi 76) _ _ = some lv := h
    cases e2 : Nat.beq mi 76 with
    | true =>
      rw [e2] at h
      obtain ⟨h1, h⟩ := z_if_some (show z_if (z_sameL z_sameV as [.inl (.ref 144)]) _ none = some lv from h)
      obtain ⟨h2, h⟩ := z_if_some h
      cases h
      rw [z_beq e2] at hN
      rw [z_sameL_ok (fun _ _ => z_sameV_ok) h1]
      have q1 : z_LY.length ≤ 256 := by
        rw [show z_LY.length = _ from List.length_append, z_len5]
        exact Nat.le_of_ble_eq_true rfl
      have q2 : z_LB.length ≤ 256 := by
        rw [show z_LB.length = _ from z_len1]
        exact Nat.le_of_ble_eq_true rfl
      exact zmI (mi := 76) (as := [.inl (.ref 144)]) (l0 := z_LY) (l1 := z_LB) hFx q1 q2 zi_M hN h2 hβ
    | false =>
      rw [e2] at h
      rcases z_look_ok (show z_look z_TX mi as _ _ = some lv from h) with ⟨y, hy, hmi, has, hk⟩ | h
      · obtain ⟨h2, hk⟩ := z_if_some hk
        cases hk
        rw [has]
        exact zmX hFx (z_TX_ok y hy) (by rw [hmi]; exact hN) h2 hβ
      · rcases z_look_ok h with ⟨y, hy, hmi, has, hk⟩ | h
        · obtain ⟨h2, hk⟩ := z_if_some hk
          cases hk
          rw [has]
          exact zmM hFx (z_TM_ok y hy) (by rw [hmi]; exact hN) h2 hβ
        · cases h
