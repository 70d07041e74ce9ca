/-! what the law's calls give -/
theorem zMet_conv {l : Launch} {y : MethodName} {ws : List Cond} {rm : Room} {mc ms : Nat} {free : Addr → Prop} {ι : Type} {Pc' : Array Value → State → Prop} {Qc' : Array Value → State → Outcome → State → Prop} {Pc : ι → Array Value → State → Prop} {Qc : ι → Array Value → State → Outcome → State → Prop} {Rel : ι → State → Prop}
    (h : ∀ i, Met l y ws rm (Pc i) (Qc i) mc ms free) (hP : ∀ a U, Pc' a U → ∃ i, Pc i a U ∧ Rel i U) (hQ : ∀ i a st o t, Rel i st → Qc i a st o t → Qc' a st o t) : Met l y ws rm Pc' Qc' mc ms free := by
  intro p e ha hc hk s m args below hf happ hP' hK
  obtain ⟨i, hi, hR⟩ := hP args s hP'
  obtain ⟨n, o, h1, h2, h3, hq, L, hF, hL⟩ := h i p e ha hc hk s m args below hf happ hi hK
  exact ⟨n, o, h1, h2, h3, hQ i _ _ _ _ hR hq, L, hF, hL⟩
theorem zRel_eqv {E : zG} {G G' : Nat → va_E} {X Y : zH} {H : Heap} (h : zRel E G X H) (h1 : Y.1 = X.1) (hk : ∀ k, k < X.1 → zcg (zg_r E) (zg_a E) (zg_f E) (zg_A E) G' k (z_hg Y k) = zcg (zg_r E) (zg_a E) (zg_f E) (zg_A E) G k (z_hg X k)) : zRel E G' Y H := by
  have e : zwd E G' Y = zwd E G X := by
    apply List.ext_getElem?
    intro j
    by_cases hj : j < X.1
    · rw [zw_at (show j < Y.1 by omega), zw_at hj, hk j hj]
    · rw [List.getElem?_eq_none (by simp [zw]; omega), List.getElem?_eq_none (by simp [zw]; omega)]
  refine ⟨?_, by rw [h1]; exact h.2.1, by rw [h1]; exact h.2.2.1, h.2.2.2⟩
  show va_P _ _ (zwd E G' Y) H
  rw [e]
  exact h.1
theorem zRel_same {E : zG} {G : Nat → va_E} {X Y : zH} {H : Heap} (h : zRel E G X H) (h1 : Y.1 = X.1) (hk : ∀ k, k < X.1 → z_hg Y k = z_hg X k) : zRel E G Y H := zRel_eqv h h1 (fun k hk2 => by rw [hk k hk2])
/-- cells are forgotten -/
theorem zRel_hole {E : zG} {G : Nat → va_E} {X Y : zH} {H : Heap} (h : zRel E G X H) (h1 : Y.1 = X.1) (hk : ∀ k, k < X.1 → z_hg Y k = none ∨ z_hg Y k = z_hg X k) : zRel E (fun k => zcg (zg_r E) (zg_a E) (zg_f E) (zg_A E) G k (z_hg X k)) Y H := by
  refine zRel_eqv h h1 (fun k hk2 => ?_)
  rcases hk k hk2 with e | e
  · rw [e]; rfl
  · rw [e]
    cases e2 : z_hg X k with
    | none => rw [e2] at e; show zcg _ _ _ _ G k (z_hg X k) = _; rw [e2]
    | some c => rfl
theorem z_isH_ok {X : zH} {l : List zC} (h : z_isH X l = true) : X.1 = l.length ∧ ∀ (k : Nat) (c : zC), l[k]? = some c → z_hg X k = c := by
  obtain ⟨h1, h2⟩ := z_ifT h
  refine ⟨z_beq h1, fun k c hc => ?_⟩
  have := z_holds_ok h2 k c hc
  rw [Nat.zero_add] at this
  exact this
/-- a heap that holds a list is as good as the list's own -/
theorem z_isH_rel {E : zG} {G : Nat → va_E} {X : zH} {l : List zC} {H : Heap} (hl : l.length ≤ 256) (h : z_isH X l = true) (hr : zRel E G X H) : zRel E G (z_hl l) H := by
  obtain ⟨h1, h2⟩ := z_isH_ok h
  refine zRel_same hr (by rw [z_hl_len hl, h1]) (fun k hk => ?_)
  obtain ⟨c, hc⟩ : ∃ c, l[k]? = some c := ⟨_, List.getElem?_eq_getElem (by omega)⟩
  rw [z_hl_get hl hc, h2 k c hc]
theorem z_len1 : (z_LA ++ z_LM).length = 190 := by decide +kernel
theorem z_len2 : (z_LA ++ z_hM).length = 190 := by decide +kernel
theorem z_len3 : (z_hA ++ z_LM).length = 190 := by decide +kernel
theorem z_len4 : (z_hA ++ z_hM).length = 190 := by decide +kernel
theorem z_len5 : z_LA.length = 144 := by decide +kernel
theorem z_len6 : z_hA.length = 144 := by decide +kernel
theorem z_LM_some : z_LM.all Option.isSome = true := by decide +kernel
theorem z_hA_none : ∀ c ∈ z_hA, c = none := fun c h => (List.mem_replicate.mp h).2
theorem z_hM_none : ∀ c ∈ z_hM, c = none := fun c h => (List.mem_replicate.mp h).2
noncomputable def z_X0 : zH := z_hl (z_hA ++ z_hM)
/-- the leaves that a summary gives in a box -/
noncomputable def z_lv1 (s : zB × zV) (β : zB) (X : zH) : Option zR := z_if (Nat.beq s.1.length β.length) (z_ob (z_meet s.1 β) fun b => some (b, some s.2, X)) (some (β, some s.2, X))
noncomputable def z_lvs (sm : List (zB × zV)) (β : zB) (X : zH) : List zR := List.rec (motive := fun _ => List zR) [] (fun s _ ih => Option.rec (motive := fun _ => List zR) ih (fun r => r :: ih) (z_lv1 s β X)) sm
theorem z_lvs_ok {ρ : Nat → Int32} {β : zB} {X : zH} (hβ : zok ρ β) : ∀ {sm : List (zB × zV)} {s : zB × zV}, s ∈ sm → zok ρ s.1 → ∃ r ∈ z_lvs sm β X, zok ρ r.1 ∧ r.2.1 = some s.2 ∧ r.2.2 = X
  | s0 :: t, s, hs, h => by
    show ∃ r ∈ Option.rec (motive := fun _ => List zR) (z_lvs t β X) (fun r => r :: z_lvs t β X) (z_lv1 s0 β X), _
    rcases List.mem_cons.mp hs with e | e
    · rw [← e]
      have key : ∃ r, z_lv1 s β X = some r ∧ zok ρ r.1 ∧ r.2.1 = some s.2 ∧ r.2.2 = X := by
        unfold z_lv1
        cases e2 : Nat.beq s.1.length β.length with
        | false => exact ⟨_, rfl, hβ, rfl, rfl⟩
        | true =>
          obtain ⟨b, hb, hb2⟩ := z_meet_k (z_beq e2) h hβ
          refine ⟨(b, some s.2, X), ?_, hb2, rfl, rfl⟩
          show z_ob (z_meet s.1 β) _ = _
          rw [hb]
      obtain ⟨r, hr, hr2⟩ := key
      rw [hr]
      exact ⟨r, List.mem_cons_self, hr2⟩
    · obtain ⟨r, hr, hr2⟩ := z_lvs_ok hβ e h
      cases z_lv1 s0 β X with
      | none => exact ⟨r, hr, hr2⟩
      | some q => exact ⟨r, List.mem_cons_of_mem _ hr, hr2⟩
section
variable {l : Launch} {E : zG}
theorem zmX (hFx : zFix E) {y : zY} (hy : z_chkX y = true) {N : zM} (hN : z_Ms[y.1]? = some N) {X : zH} (hX : z_isH X (z_LA ++ z_LM) = true) {β : zB} (hβ : zok (zg_r E) β) : zMet l E (fun _ => True) 12 N y.2.1 X (z_lvs y.2.2 β z_XM) := by
  obtain ⟨lv, hlv, hall⟩ := z_orec hy
  obtain ⟨x1, x2⟩ := z_isH_ok hX
  have a1 : z_XA.1 = 190 := by rw [show z_XA.1 = _ from z_hl_len (by rw [z_len2]; decide), z_len2]
  have m1 : z_XM.1 = 190 := by rw [show z_XM.1 = _ from z_hl_len (by rw [z_len3]; decide), z_len3]
  rw [z_len1] at x1
  -- the class's cells as they are, the others as holes
  have hA : ∀ k, k < X.1 → z_hg z_XA k = none ∨ z_hg z_XA k = z_hg X k := by
    intro k hk
    by_cases h : k < 144
    · obtain ⟨c, hc⟩ : ∃ c, z_LA[k]? = some c := ⟨_, List.getElem?_eq_getElem (by rw [z_len5]; exact h)⟩
      right
      rw [show z_hg z_XA k = c from z_hl_get (by rw [z_len2]; decide) (by rw [List.getElem?_append_left (by rw [z_len5]; exact h)]; exact hc), x2 k c (by rw [List.getElem?_append_left (by rw [z_len5]; exact h)]; exact hc)]
    · left
      obtain ⟨c, hc⟩ : ∃ c, (z_LA ++ z_hM)[k]? = some c := ⟨_, List.getElem?_eq_getElem (by rw [z_len2]; omega)⟩
      rw [show z_hg z_XA k = c from z_hl_get (by rw [z_len2]; decide) hc]
      rw [List.getElem?_append_right (by rw [z_len5]; omega)] at hc
      exact z_hM_none c (List.mem_of_getElem? hc)
  refine zMet_conv (ι := Nat → va_E) (Rel := fun G0 U => ∃ G, G0 = (fun k => zcg (zg_r E) (zg_a E) (zg_f E) (zg_A E) G k (z_hg X k))) (fun G0 => zs_call hFx zcls zcom z_Ms_ok 12 (fun G => G = G0) y.1 y.2.1 z_XA z_b0 lv N hlv z_b0_ok hN) ?_ ?_
  · intro a U hp
    obtain ⟨h1, ⟨G, -, hrel⟩, henv⟩ := hp
    exact ⟨_, ⟨h1, ⟨_, rfl, zRel_hole hrel (by rw [a1, x1]) hA⟩, henv⟩, G, rfl⟩
  · intro G0 a st o t hG hq
    obtain ⟨G, hG⟩ := hG
    obtain ⟨⟨r, hr, hok, ho, G1, hG1, hrel⟩, hsz⟩ := hq
    rw [hG1] at hrel
    obtain ⟨c1, c2⟩ := z_ifT (z_allR_ok hall r hr)
    obtain ⟨c2, c3⟩ := z_ifT c2
    have c2 := z_beq c2
    obtain ⟨v, s, hv, hs, hvs, hsub⟩ := z_told_ok c1
    obtain ⟨r', hr', hok', hv', hX'⟩ := z_lvs_ok (X := z_XM) hβ hs (z_sub_ok hsub hok)
    refine ⟨⟨r', hr', hok', by rw [hv', ho, hv, hvs], ?_⟩, hsz⟩
    rw [hX']
    refine ⟨fun k => zcg (zg_r E) (zg_a E) (zg_f E) (zg_A E) G0 k (z_hg r.2.2 k), trivial, zRel_eqv hrel (by rw [m1, c2]) (fun k hk => ?_)⟩
    by_cases h : k < 144
    · obtain ⟨c, hc⟩ : ∃ c, z_hA[k]? = some c := ⟨_, List.getElem?_eq_getElem (by rw [z_len6]; exact h)⟩
      rw [show z_hg z_XM k = c from z_hl_get (by rw [z_len3]; decide) (by rw [List.getElem?_append_left (by rw [z_len6]; exact h)]; exact hc), z_hA_none c (List.mem_of_getElem? hc)]
      rfl
    · have hk : k < 190 := by omega
      have hh : z_hg r.2.2 k = none := by
        obtain ⟨c, hc⟩ : ∃ c, z_hM[k - 144]? = some c := ⟨_, List.getElem?_eq_getElem (by show k - 144 < (List.replicate 46 none : List zC).length; rw [List.length_replicate]; omega)⟩
        have := z_holds_ok c3 (k - 144) c hc
        rw [show 144 + (k - 144) = k by omega] at this
        rw [this]
        exact z_hM_none c (List.mem_of_getElem? hc)
      obtain ⟨c, hc⟩ : ∃ c, z_LM[k - 144]? = some c := ⟨_, List.getElem?_eq_getElem (by have := z_len3; rw [List.length_append, z_len6] at this; omega)⟩
      have hcs := List.all_eq_true.mp z_LM_some c (List.mem_of_getElem? hc)
      rw [show z_hg z_XM k = c from z_hl_get (by rw [z_len3]; decide) (by rw [List.getElem?_append_right (by rw [z_len6]; omega), z_len6]; exact hc), hh]
      show _ = G0 k
      rw [hG]
      show _ = zcg _ _ _ _ G k (z_hg X k)
      rw [x2 k c (by rw [List.getElem?_append_right (by rw [z_len5]; omega), z_len5]; exact hc)]
      cases c with
      | none => cases hcs
      | some q => rfl
theorem zmM (hFx : zFix E) {y : zY} (hy : z_chkM y = true) {N : zM} (hN : z_Ms[y.1]? = some N) {X : zH} (hX : z_isH X (z_hA ++ z_LM) = true) {β : zB} (hβ : zok (zg_r E) β) : zMet l E (fun _ => True) 12 N y.2.1 X (z_lvs y.2.2 β z_X0) := by
  obtain ⟨lv, hlv, hall⟩ := z_orec hy
  have o1 : z_X0.1 = 190 := by rw [show z_X0.1 = _ from z_hl_len (by rw [z_len4]; decide), z_len4]
  refine zMet_conv (ι := Unit) (Rel := fun _ _ => True) (fun _ => zs_call hFx zcls zcom z_Ms_ok 12 (fun _ => True) y.1 y.2.1 z_XM z_b0 lv N hlv z_b0_ok hN) ?_ ?_
  · intro a U hp
    obtain ⟨h1, ⟨G, -, hrel⟩, henv⟩ := hp
    exact ⟨(), ⟨h1, ⟨G, trivial, z_isH_rel (by rw [z_len3]; decide) hX hrel⟩, henv⟩, trivial⟩
  · intro _ a st o t _ hq
    obtain ⟨⟨r, hr, hok, ho, G1, -, hrel⟩, hsz⟩ := hq
    obtain ⟨c1, c2⟩ := z_ifT (z_allR_ok hall r hr)
    have c2 := z_beq c2
    obtain ⟨v, s, hv, hs, hvs, hsub⟩ := z_told_ok c1
    obtain ⟨r', hr', hok', hv', hX'⟩ := z_lvs_ok (X := z_X0) hβ hs (z_sub_ok hsub hok)
    refine ⟨⟨r', hr', hok', by rw [hv', ho, hv, hvs], ?_⟩, hsz⟩
    rw [hX']
    refine ⟨_, trivial, zRel_hole hrel (by rw [o1, c2]) (fun k hk => Or.inl ?_)⟩
    obtain ⟨c, hc⟩ : ∃ c, (z_hA ++ z_hM)[k]? = some c := ⟨_, List.getElem?_eq_getElem (by rw [z_len4]; omega)⟩
    rw [show z_hg z_X0 k = c from z_hl_get (by rw [z_len4]; decide) hc]
    rcases List.mem_append.mp (List.mem_of_getElem? hc) with e | e
    · exact z_hA_none c e
    · exact z_hM_none c e
/-- a constructor -/
theorem zmI (hFx : zFix E) {mi : Nat} {as : List zV} {l0 l1 : List zC} (h0 : l0.length ≤ 256) (h1 : l1.length ≤ 256) (hy : z_chkI mi as l0 l1 = true) {N : zM} (hN : z_Ms[mi]? = some N) {X : zH} (hX : z_isH X l0 = true) {β : zB} (hβ : zok (zg_r E) β) : zMet l E (fun _ => True) 12 N as X [(β, none, z_hl l1)] := by
  obtain ⟨lv, hlv, hall⟩ := z_orec hy
  refine zMet_conv (ι := Unit) (Rel := fun _ _ => True) (fun _ => zs_call hFx zcls zcom z_Ms_ok 12 (fun _ => True) mi as (z_hl l0) z_b0 lv N hlv z_b0_ok hN) ?_ ?_
  · intro a U hp
    obtain ⟨q1, ⟨G, -, hrel⟩, henv⟩ := hp
    exact ⟨(), ⟨q1, ⟨G, trivial, z_isH_rel h0 hX hrel⟩, henv⟩, trivial⟩
  · intro _ a st o t _ hq
    obtain ⟨⟨r, hr, hok, ho, G1, -, hrel⟩, hsz⟩ := hq
    have c1 := z_allR_ok hall r hr
    cases e : r.2.1 with
    | some v => rw [e] at c1; cases c1
    | none =>
      rw [e] at c1 ho
      exact ⟨⟨_, List.mem_cons_self, hβ, ho, G1, trivial, z_isH_rel h1 c1 hrel⟩, hsz⟩
end
/-- the law's calls, by the tables -/
noncomputable def z_look (tb : List zY) (mi : Nat) (as : List zV) (k : zY → Option (List zR)) (d : Option (List zR)) : Option (List zR) := List.rec (motive := fun _ => Option (List zR)) d (fun y _ ih => z_if (Nat.beq (Prod.fst y) mi) (z_if (z_sameL z_sameV as y.2.1) (k y) ih) ih) tb
theorem z_look_ok {mi : Nat} {as : List zV} {k : zY → Option (List zR)} {d : Option (List zR)} {lv : List zR} : ∀ {tb : List zY}, z_look tb mi as k d = some lv → (∃ y ∈ tb, y.1 = mi ∧ as = y.2.1 ∧ k y = some lv) ∨ d = some lv
  | [], h => Or.inr h
  | y :: t, h => by
    have h : z_if (Nat.beq y.1 mi) (z_if (z_sameL z_sameV as y.2.1) (k y) (z_look t mi as k d)) (z_look t mi as k d) = some lv := h
    have rest : z_look t mi as k d = some lv → (∃ y' ∈ y :: t, y'.1 = mi ∧ as = y'.2.1 ∧ k y' = some lv) ∨ d = some lv := by
      intro h
      rcases z_look_ok h with ⟨y', a, b⟩ | h
      · exact Or.inl ⟨y', List.mem_cons_of_mem _ a, b⟩
      · exact Or.inr h
    cases e1 : Nat.beq y.1 mi with
    | false => rw [e1] at h; exact rest h
    | true =>
      rw [e1] at h
      have h : z_if (z_sameL z_sameV as y.2.1) (k y) (z_look t mi as k d) = some lv := h
      cases e2 : z_sameL z_sameV as y.2.1 with
      | false => rw [e2] at h; exact rest h
      | true =>
        rw [e2] at h
        exact Or.inl ⟨y, List.mem_cons_self, z_beq e1, z_sameL_ok (fun _ _ => z_sameV_ok) e2, h⟩
