/-! the words, the surroundings, a point of a walk -/
noncomputable def z_WS : List Cond := lw_tbl.filter goodWord
theorem z_WS_in {w : Cond} {i : Nat} (h : lw_tbl[i]? = some w) (hg : goodWord w = true) : w ∈ z_WS := List.mem_filter.mpr ⟨List.mem_of_getElem? h, hg⟩
theorem z_WS_good {w : Cond} (h : w ∈ z_WS) : (w.onTables && w.keeps) = true ∨ ∃ ty, w = .arrayClass ty := good_of_word (List.mem_filter.mp h).2
/-- the private members of nest mates -/
def z_nq : List (String × Nat × MethodName × String) := [("FarBank", 15, yX5_init, "FarBank"), ("FarBank", 29, yX0_init, "FarBank"), ("FarBank", 36, yX1_init, "FarBank"), ("FarBank", 43, yX3_init, "FarBank"), ("FarBank", 50, yX8_init, "FarBank"), ("FarBank", 72, yX6_init, "FarBank"), ("FarBank$River", 38, yX2_init, "FarBank"), ("FarBank$State", 25, yX10_isTown, "FarBank")]
def z_T : String := "deed here good bad there person of first on does group many pity vote winter draw or and not terms season "
abbrev zG : Type := (Nat → Int32) × (Nat → Nat) × Value × (Nat → ClassId) × (Nat → ClassId) × (Nat → Nat → Nat) × Nat × Heap
abbrev zg_r (E : zG) : Nat → Int32 := E.1
abbrev zg_a (E : zG) : Nat → Nat := E.2.1
abbrev zg_f (E : zG) : Value := E.2.2.1
abbrev zg_A (E : zG) : Nat → ClassId := E.2.2.2.1
abbrev zg_D (E : zG) : va_G := (E.2.2.2.2.1, E.2.2.2.2.2.1)
abbrev zg_n (E : zG) : Nat := E.2.2.2.2.2.2.1
abbrev zg_H (E : zG) : Heap := E.2.2.2.2.2.2.2
abbrev zv (E : zG) (v : zV) : Value := zc (zg_r E) (zg_a E) (zg_f E) v
noncomputable abbrev zwd (E : zG) (G : Nat → va_E) (X : zH) : va_W := zw (zg_r E) (zg_a E) (zg_f E) (zg_A E) (zg_n E) G X
abbrev zgA (E : zG) : Nat → Prop := fun q => zg_n E ≤ q
def z_T2 : String := ";()<>=+-*/%"
def zEnv2 (E : zG) (U : State) : Prop :=
  vk_R "FarBank$Scan" 58 z_T2 (zg_a E z_STR2) U ∧ va_O "java/lang/String" (zg_a E z_STR2) (zgA E) U (zg_H E) ∧ va_OF "java/lang/String" "coder" "B" (.int 0) (zg_a E z_STR2) (zgA E) U (zg_H E) ∧ va_OF "java/lang/String" "value" "[B" (.ref (zg_a E z_STV2)) (zg_a E z_STR2) (zgA E) U (zg_H E) ∧
  va_T .byte (zg_a E z_STV2) 11 (fun j => .int (z_sgn.getD j 0)) (zgA E) U (zg_H E)
def zEnv (E : zG) (U : State) : Prop :=
  va_K (zg_D E) vwCl (z_tys (zg_A E)) U ∧ (∀ q ∈ z_nq, va_Nw (.methodLinkNest q.1 q.2.1 q.2.2.1 q.2.2.2) U) ∧ va_AO "FarBank$State" U ∧ vk_R "FarBank$Scan" 13 z_T (zg_a E z_STR) U ∧
  va_Z "java/lang/String" "COMPACT_STRINGS" "Z" (.int 1) (zgA E) U (zg_H E) ∧ va_Z "jdk/internal/util/Preconditions" "SIOOBE_FORMATTER" "Ljava/util/function/BiFunction;" (zg_f E) (zgA E) U (zg_H E) ∧
  va_O "java/lang/String" (zg_a E z_STR) (zgA E) U (zg_H E) ∧ va_OF "java/lang/String" "coder" "B" (.int 0) (zg_a E z_STR) (zgA E) U (zg_H E) ∧ va_OF "java/lang/String" "value" "[B" (.ref (zg_a E z_STV)) (zg_a E z_STR) (zgA E) U (zg_H E) ∧
  va_T .byte (zg_a E z_STV) 106 (fun j => .int (z_txt.getD j 0)) (zgA E) U (zg_H E) ∧ zEnv2 E U ∧ ∃ L, L ≤ 3072 ∧ va_X (zg_a E z_SCR) L (zg_r E) U (zg_H E) ∧ zg_r E 3072 = Int32.ofNat L
/-- what holds of the surroundings whatever the state is -/
def zFix (E : zG) : Prop := zg_a E z_SCR < zg_n E ∧ (zg_H E).size = zg_n E ∧ (∀ k, k < 256 → zg_a E k = zg_n E + k) ∧ (zg_f E).category = 1
theorem zEnv.warm {E : zG} {s U : State} (hW : s.WarmedH U.vm) (h : zEnv E s) : zEnv E U := by
  obtain ⟨h1, h2, h3, h4, h5, h6, h7, h8, h9, h10, ⟨g1, g2, g3, g4, g5⟩, L, h11, h12, h13⟩ := h
  have ha := hW.alike
  exact ⟨va_K.moved ha h1, fun q hq => va_Nw.warmM hW (h2 q hq), va_AO.moved ha h3, vk_R.warm hW h4, va_Z.moved ha h5, va_Z.moved ha h6, va_O.moved ha h7, va_OF.moved ha h8, va_OF.moved ha h9, va_T.moved ha h10, ⟨vk_R.warm hW g1, va_O.moved ha g2, va_OF.moved ha g3, va_OF.moved ha g4, va_T.moved ha g5⟩, L, h11, va_X.moved ha h12, h13⟩
def zRel (E : zG) (G : Nat → va_E) (X : zH) (H : Heap) : Prop := va_P (zg_D E) vwCl (zwd E G X) H ∧ H.size = zg_n E + X.1 ∧ X.1 ≤ 256 ∧ ∀ q, q < zg_n E → H[q]? = (zg_H E)[q]?
/-- the contracts -/
def zPc (E : zG) (J : (Nat → va_E) → Prop) (as : List zV) (X : zH) : Array Value → State → Prop := fun v U => v = (as.map (zv E)).toArray ∧ (∃ G, J G ∧ zRel E G X U.heap) ∧ zEnv E U
def zQc (E : zG) (J : (Nat → va_E) → Prop) (mc : Nat) (lv : zR → Prop) : Array Value → State → Outcome → State → Prop := fun _ st oc t => (∃ r, lv r ∧ zok (zg_r E) r.1 ∧ oc = .returned (r.2.1.map (zv E)) ∧ ∃ G, J G ∧ zRel E G r.2.2 t.heap) ∧ t.heap.size = st.heap.size + mc
theorem zPc_blind {E : zG} {J : (Nat → va_E) → Prop} {as : List zV} {X : zH} : FrameBlind (zPc E J as X) := fun a U g mk h => ⟨h.1, h.2.1, zEnv.warm (s := U) (U := U.calling g mk a) (State.WarmedH.refl U) h.2.2⟩
noncomputable def z_ws (M : zM) : List Cond := .code (zm_y M) (zm_b M) (zm_L M) (zm_r M) :: z_WS
def z_rm (d : Nat) (M : zM) : Room := { frames := d, cells := zm_mc M, slots := zm_ms M, locals := 64 * d }
def zMet (l : Launch) (E : zG) (J : (Nat → va_E) → Prop) (d : Nat) (M : zM) (as : List zV) (X : zH) (lv : zR → Prop) : Prop := Met l (zm_y M) (z_ws M) (z_rm d M) (zPc E J as X) (zQc E J (zm_mc M) lv) (zm_mc M) (zm_ms M) (zgA E)
/-! what must be known of an instruction and of a method -/
def z_ilen (i : Instr) (l : Nat) : Nat := match i with
  | .bipush _ | .iload _ | .aload _ | .lload _ | .istore _ | .astore _ | .lstore _ | .ldc _ | .newarray _ => 2
  | .sipush _ | .ldc_w _ | .ldc2_w _ | .getstatic _ | .iinc _ _ | .getfield _ | .putfield _ | .anewarray _ | .new _ | .goto _ | .ifCond _ _ | .if_icmp _ _ | .ifnull _ | .ifnonnull _ | .invokevirtual _ | .invokespecial _ | .invokestatic _ => 3
  | .tableswitch _ _ _ _ => l
  | .lookupswitch _ _ => l
  | _ => 1
def z_cw (ci : Nat) : vw_C := vwCl.getD ci (RX0, TX0, 2)
/-- of each method: 0 virtual, 1 a constructor, 2 static -/
def zKd (kind : Nat) (N : zM) : Prop := match kind with
  | 0 => Cond.instanceMethod (zm_y N) ∈ z_WS ∧ Cond.selects (zm_y N).cls (zm_y N) (zm_y N) ∈ z_WS ∧ (if zm_ci N = 100 then (zm_y N).cls = "java/lang/String" else vwCl[zm_ci N]? = some (z_cw (zm_ci N)) ∧ (zm_y N).cls = (z_cw (zm_ci N)).1) ∧ (parseMethodDescriptor (zm_y N).desc).map (fun d => d.parameters.length + 1) = some (zm_np N)
  | 1 => Cond.instanceMethod (zm_y N) ∈ z_WS ∧ (zm_y N).name = "<init>" ∧ zm_r N = none ∧ (parseMethodDescriptor (zm_y N).desc).map (fun d => d.parameters.length + 1) = some (zm_np N)
  | _ => Cond.static (zm_y N) ∈ z_WS ∧ (parseMethodDescriptor (zm_y N).desc).map (fun d => d.parameters.length) = some (zm_np N)
def zMcall (Ms : List zM) (own : String) (kind idx a1 a2 : Nat) : Prop := ∃ N, Ms[a1]? = some N ∧
  (match a2 with
    | 1 => (own, idx, zm_y N, "FarBank") ∈ z_nq
    | _ => Cond.methodLink own idx (zm_y N) ∈ z_WS) ∧ (kind = 0 → a2 ≠ 1) ∧ zKd kind N
def zInvOk (Ms : List zM) (own : String) (kind idx a1 a2 : Nat) : Prop := match a2 with
  | 2 => kind = 1 ∧ Cond.methodLink own idx Lib.objectInit ∈ z_WS
  | 3 => kind = 2 ∧ Cond.methodLink own idx arraycopyName ∈ z_WS
  | 4 => kind = 2 ∧ Cond.methodLink own idx Lib.Math.min.name ∈ z_WS
  | 5 => kind = 2 ∧ Cond.methodLink own idx Lib.Math.max.name ∈ z_WS
  | 6 => kind = 2 ∧ Cond.methodLink own idx Lib.Math.abs.name ∈ z_WS
  | _ => zMcall Ms own kind idx a1 a2
def zLink (Ms : List zM) (M : zM) (i : Instr) (a1 a2 : Nat) : Prop := match i with
  | .ldc idx => match a2 with
    | 1 => (zm_y M).cls = "FarBank$Scan" ∧ idx = 13
    | 2 => (zm_y M).cls = "FarBank$Scan" ∧ idx = 58
    | _ => Cond.constant (zm_y M).cls idx (Int32.ofNat a1) ∈ z_WS
  | .ldc_w idx => Cond.constant (zm_y M).cls idx (Int32.ofNat a1) ∈ z_WS
  | .ldc2_w idx => Cond.constantLong (zm_y M).cls idx (Int64.ofNat a1) ∈ z_WS
  | .getstatic idx => match a1 with
    | 0 => Cond.fieldLink (zm_y M).cls idx "java/lang/String" "COMPACT_STRINGS" "Z" ∈ z_WS
    | _ => Cond.fieldLink (zm_y M).cls idx "jdk/internal/util/Preconditions" "SIOOBE_FORMATTER" "Ljava/util/function/BiFunction;" ∈ z_WS
  | .getfield idx => if a1 = 100 then (match a2 with
      | 0 => Cond.fieldLink (zm_y M).cls idx "java/lang/String" "value" "[B" ∈ z_WS
      | _ => Cond.fieldLink (zm_y M).cls idx "java/lang/String" "coder" "B" ∈ z_WS)
    else vwCl[a1]? = some (z_cw a1) ∧ a2 < (z_cw a1).2.2 ∧ Cond.fieldLink (zm_y M).cls idx ((z_cw a1).2.1 a2).1 ((z_cw a1).2.1 a2).2.1 ((z_cw a1).2.1 a2).2.2.1 ∈ z_WS
  | .putfield idx => vwCl[a1]? = some (z_cw a1) ∧ a2 < (z_cw a1).2.2 ∧ Cond.fieldLink (zm_y M).cls idx ((z_cw a1).2.1 a2).1 ((z_cw a1).2.1 a2).2.1 ((z_cw a1).2.1 a2).2.2.1 ∈ z_WS ∧ (((z_cw a1).2.1 a2).2.2.2 = false ∨ ((z_cw a1).2.1 a2).2.2.2 = true ∧ (zm_y M).name = "<init>" ∧ ((z_cw a1).2.1 a2).1 = (zm_y M).cls)
  | .newarray t => Cond.arrayClass (newarray.typeOf t) ∈ z_WS ∧ (t = .int ∨ t = .byte ∨ t = .boolean ∨ t = .long)
  | .anewarray idx => Cond.classLink (zm_y M).cls idx "FarBank$State" ∈ z_WS
  | .new idx => vwCl[a1]? = some (z_cw a1) ∧ Cond.classLink (zm_y M).cls idx (z_cw a1).1 ∈ z_WS
  | .lookupswitch _ ps => (ps.toList.zip (ps.toList.drop 1)).all (fun (a, next) => a.1 < next.1) = true
  | .tableswitch _ lo hi offs => ((offs.toList.length : Nat) : Int) = hi - lo + 1 ∧ -1000 ≤ lo ∧ hi ≤ 1000
  | .invokevirtual idx => zInvOk Ms (zm_y M).cls 0 idx a1 a2
  | .invokespecial idx => zInvOk Ms (zm_y M).cls 1 idx a1 a2
  | .invokestatic idx => zInvOk Ms (zm_y M).cls 2 idx a1 a2
  | _ => True
def zJmp (pc : Nat) (i : Instr) : Prop := match i with
  | .goto off | .ifCond _ off | .if_icmp _ off | .ifnull off | .ifnonnull off => (pc : Int) + off = (z_tgt pc off : Int)
  | .lookupswitch d ps => (pc : Int) + d = (z_tgt pc d : Int) ∧ ∀ q ∈ ps.toList, (pc : Int) + q.2 = (z_tgt pc q.2 : Int)
  | .tableswitch d _ _ offs => (pc : Int) + d = (z_tgt pc d : Int) ∧ ∀ off ∈ offs.toList, (pc : Int) + off = (z_tgt pc off : Int)
  | _ => True
def zEok (Ms : List zM) (M : zM) (e : zE) : Prop := decode (zm_b M) e.1 = .ok (e.2.1, z_ilen e.2.1 e.2.2.1) ∧ zLink Ms M e.2.1 e.2.2.2.1 e.2.2.2.2 ∧ zJmp e.1 e.2.1
def zMok (Ms : List zM) (M : zM) : Prop := plainName (zm_y M).cls = true ∧ Cond.code (zm_y M) (zm_b M) (zm_L M) (zm_r M) ∈ z_WS ∧ Cond.initialized (zm_y M).cls ∈ z_WS ∧ ((zm_y M).cls ≠ "java/lang/invoke/MethodHandle" ∧ (zm_y M).cls ≠ "java/lang/invoke/VarHandle") ∧ zm_L M ≤ 40 ∧ ∀ e ∈ zm_c M, zEok Ms M e
/-- of each class -/
def zClsOk : Prop := ∀ (ci : Nat), vwCl[ci]? = some (z_cw ci) → (∀ w ∈ u_ws (z_cw ci).1 (z_cw ci).2.1 (z_cw ci).2.2, w ∈ z_WS) ∧ (∀ k, k < (z_cw ci).2.2 → parseFieldDescriptor ((z_cw ci).2.1 k).2.2.1 = some (z_ty ci k)) ∧ (∀ a, a < (z_cw ci).2.2 → ∀ b, b < (z_cw ci).2.2 → a ≠ b → ((z_cw ci).2.1 a).2.1 ≠ ((z_cw ci).2.1 b).2.1) ∧ Cond.instantiable (z_cw ci).1 (z_cw ci).2.2 ∈ z_WS ∧ Cond.initialized (z_cw ci).1 ∈ z_WS ∧ z_N ci = (z_cw ci).2.2
/-- what is the same for every method: Object's constructor, arraycopy, Math -/
def zComOk : Prop := Cond.instanceMethod Lib.objectInit ∈ z_WS ∧ Cond.code Lib.objectInit ⟨#[0xb1]⟩ 1 none ∈ z_WS ∧ Cond.native arraycopyName ∈ z_WS ∧ Cond.static arraycopyName ∈ z_WS ∧ Cond.initialized "java/lang/System" ∈ z_WS ∧ Cond.initialized "java/lang/Math" ∈ z_WS ∧
  (Cond.static Lib.Math.min.name ∈ z_WS ∧ Cond.code Lib.Math.min.name Lib.Math.min.code 2 (some .int) ∈ z_WS) ∧ (Cond.static Lib.Math.max.name ∈ z_WS ∧ Cond.code Lib.Math.max.name Lib.Math.max.code 2 (some .int) ∈ z_WS) ∧ (Cond.static Lib.Math.abs.name ∈ z_WS ∧ Cond.code Lib.Math.abs.name Lib.Math.abs.code 1 (some .int) ∈ z_WS)
