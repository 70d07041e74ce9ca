/-! the executor's cells as cells of the machine -/
section
variable (ρ : Nat → Int32) (ad : Nat → Nat) (fv : Value) (dA : Nat → ClassId)
def zcR (v : zV) : Option Nat := match v with
  | .inl (.ref k) => some (ad k)
  | _ => none
def zcL (v : zV) : Int64 := match v with
  | .inl (.long x) => x
  | _ => 0
noncomputable def zcf (ty len : Nat) (u : List (Nat × zV)) : (Nat → Int32) ⊕ (Nat → Int64) ⊕ (Nat → UInt32) ⊕ (Nat → UInt64) ⊕ (Nat → Option Nat) := match ty with
  | 3 => .inr (.inl fun j => if j < len then zcL (z_el 3 u j) else 0)
  | 4 => .inr (.inr (.inr (.inr fun j => if j < len then zcR ad (z_el 4 u j) else none)))
  | t => .inl fun j => if j < len then z_I ρ (z_el t u j) else 0
noncomputable def zce (c : zK) : va_E := match c with
  | .inl a => .inl (dA a.1, a.2.1, zcf ρ ad a.1 a.2.1 a.2.2)
  | .inr o => .inr (o.1, o.2.map (zc ρ ad fv))
noncomputable def zcg (G : Nat → va_E) (k : Nat) (c : zC) : va_E := match c with
  | some c => zce ρ ad fv dA c
  | none => G k
noncomputable def zw (n : Nat) (G : Nat → va_E) (H : zH) : va_W := (List.range H.1).map fun k => (n + k, zcg ρ ad fv dA G k (z_hg H k))
end
section
variable {ρ : Nat → Int32} {ad : Nat → Nat} {fv : Value} {dA : Nat → ClassId} {n : Nat} {G : Nat → va_E}
theorem zw_at {H : zH} {k : Nat} (hk : k < H.1) : (zw ρ ad fv dA n G H)[k]? = some (n + k, zcg ρ ad fv dA G k (z_hg H k)) := by
  simp [zw, hk]
theorem zw_get {H : zH} {k : Nat} {c : zK} (hk : k < H.1) (h : z_hg H k = some c) : (zw ρ ad fv dA n G H)[k]? = some (n + k, zce ρ ad fv dA c) := by
  rw [zw_at hk, h]; rfl
theorem zw_of {H : zH} {k : Nat} {q : Nat × va_E} (h : (zw ρ ad fv dA n G H)[k]? = some q) : k < H.1 ∧ q = (n + k, zcg ρ ad fv dA G k (z_hg H k)) := by
  have hk : k < H.1 := by
    have := (List.getElem?_eq_some_iff.mp h).1
    simpa [zw] using this
  rw [zw_at hk] at h
  exact ⟨hk, (Option.some.inj h).symm⟩
theorem zw_set {H : zH} {k : Nat} {c : zK} (hk : k < H.1) (hH : H.1 ≤ 256) : zw ρ ad fv dA n G (z_hs H k (some c)) = (zw ρ ad fv dA n G H).set k (n + k, zce ρ ad fv dA c) := by
  apply List.ext_getElem?
  intro j
  by_cases hj : j < H.1
  · rw [zw_at (show j < (z_hs H k (some c)).1 from hj), z_hgs (by omega) (by omega)]
    by_cases e : j = k
    · subst e
      rw [List.getElem?_set_self (by simp [zw]; exact hj)]
      simp; rfl
    · rw [List.getElem?_set_ne (Ne.symm e), zw_at hj, if_neg e]
  · rw [List.getElem?_eq_none (by simp [zw, z_hs]; omega), List.getElem?_eq_none (by simp [zw]; omega)]
theorem zw_push {H : zH} {c : zK} (hH : H.1 < 256) : zw ρ ad fv dA n G (z_hp H (some c)) = zw ρ ad fv dA n G H ++ [(n + H.1, zce ρ ad fv dA c)] := by
  apply List.ext_getElem?
  intro j
  have hl : (zw ρ ad fv dA n G H).length = H.1 := by simp [zw]
  by_cases hj : j < H.1
  · rw [zw_at (show j < (z_hp H (some c)).1 from Nat.lt_succ_of_lt hj), z_hgp hH (by omega), if_neg (by omega), List.getElem?_append_left (by rw [hl]; exact hj), zw_at hj]
  · by_cases e : j = H.1
    · subst e
      rw [zw_at (show H.1 < (z_hp H (some c)).1 from Nat.lt_succ_self _), z_hgp hH hH, if_pos rfl, List.getElem?_append_right (by rw [hl]; exact Nat.le_refl _), hl]
      simp; rfl
    · rw [List.getElem?_eq_none (by simp [zw, z_hp]; omega), List.getElem?_eq_none (by simp [zw]; omega)]
theorem zw_D {H : zH} : va_D (fun q => n ≤ q) (zw ρ ad fv dA n G H) := by
  refine ⟨fun i j p q hi hj e => ?_, fun k q h => ?_⟩
  · obtain ⟨-, rfl⟩ := zw_of hi
    obtain ⟨-, rfl⟩ := zw_of hj
    have e : n + i = n + j := e
    omega
  · obtain ⟨-, rfl⟩ := zw_of h
    show n ≤ n + k
    omega
theorem z_get_ins : ∀ (u : List (Nat × zV)) (i j : Nat) (v : zV), z_get (z_ins u i v) j = if j = i then some v else z_get u j
  | [], i, j, v => by
    show z_if (Nat.beq i j) (some v) none = _
    cases e : Nat.beq i j with
    | true => rw [if_pos (z_beq e).symm]
    | false => rw [if_neg (fun h => z_nbeq e h.symm)]; rfl
  | q :: t, i, j, v => by
    show z_get (z_if (Nat.beq q.1 i) ((i, v) :: t) (q :: z_ins t i v)) j = if j = i then some v else z_if (Nat.beq q.1 j) (some q.2) (z_get t j)
    cases e : Nat.beq q.1 i with
    | true =>
      show z_if (Nat.beq i j) (some v) (z_get t j) = _
      cases e2 : Nat.beq i j with
      | true => rw [if_pos (z_beq e2).symm]
      | false =>
        have h2 := z_nbeq e2
        rw [if_neg (fun h => h2 h.symm)]
        have h1 := z_beq e
        cases e3 : Nat.beq q.1 j with
        | true => exact absurd (h1.symm.trans (z_beq e3)) h2
        | false => rfl
    | false =>
      show z_if (Nat.beq q.1 j) (some q.2) (z_get (z_ins t i v) j) = _
      rw [z_get_ins t i j v]
      have h1 := z_nbeq e
      cases e3 : Nat.beq q.1 j with
      | true =>
        have h3 := z_beq e3
        show some q.2 = if j = i then some v else some q.2
        rw [if_neg (fun h => h1 (by rw [h3, h]))]
      | false => rfl
theorem z_el_ins (ty : Nat) (u : List (Nat × zV)) (i j : Nat) (v : zV) : z_el ty (z_ins u i v) j = if j = i then v else z_el ty u j := by
  unfold z_el
  rw [z_get_ins]
  by_cases h : j = i
  · rw [if_pos h, if_pos h]
  · rw [if_neg h, if_neg h]
/-- the sorts of arrays -/
def z_tys (dA : Nat → ClassId) : List (ClassId × FieldType) := [(dA 0, .int), (dA 1, .byte), (dA 2, .boolean), (dA 3, .long), (dA 4, .object "FarBank$State")]
theorem zcf_i {ty len : Nat} {u : List (Nat × zV)} (h3 : ty ≠ 3) (h4 : ty ≠ 4) : zcf ρ ad ty len u = .inl fun j => if j < len then z_I ρ (z_el ty u j) else 0 := by
  unfold zcf
  split
  · exact absurd rfl h3
  · exact absurd rfl h4
  · rfl
end
/-- a walk's heap is never larger than what it has made -/
theorem z_sized {p : Program} {l : Launch} {e : Env} {R : Room} {s : State} {m : MethodId} {args : Array Value} {below : List Frame} {meth : Method} {c : Code} {H : Heap} {locs : List Loc} {cells slots : Nat} {Q : State → Prop} {g : JFrame}
    (k : H.size ≤ s.heap.size + cells → W p l e R s m args below meth c H locs cells slots Q g) : W p l e R s m args below meth c H locs cells slots Q g := by
  intro T hT X
  have h := X.heapSize
  rw [hT] at h
  exact k h T hT X
