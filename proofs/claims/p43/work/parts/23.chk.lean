/-! the checker, run by the kernel; all that it makes is worked out before it goes on -/
noncomputable abbrev q_ob {α : Type} (o : Option α) (f : α → Bool) : Bool := Option.rec (motive := fun _ => Bool) false f o
noncomputable abbrev q_lc {α : Type} (l : List α) (f : α → List α → Bool) : Bool := List.rec (motive := fun _ => Bool) false (fun a t _ => f a t) l
noncomputable abbrev q_and (a b : Bool) : Bool := z_if a b false
noncomputable abbrev q_or (a b : Bool) : Bool := z_if a true b
noncomputable abbrev q_not (a : Bool) : Bool := z_if a false true
noncomputable def q_cw (w : qW) (f : Nat → qB → List qL → List qFa → List qGh → Bool) : Bool := Prod.rec (motive := fun _ => Bool) (fun n r => Prod.rec (motive := fun _ => Bool) (fun b r => Prod.rec (motive := fun _ => Bool) (fun cs r => Prod.rec (motive := fun _ => Bool) (fun fs gs => f n b cs fs gs) r) r) r) w
noncomputable def q_ca (A : qA) (f : Nat → List (Nat × qV) → List qV → qW → Bool) : Bool := Prod.rec (motive := fun _ => Bool) (fun pc r => Prod.rec (motive := fun _ => Bool) (fun ls r => Prod.rec (motive := fun _ => Bool) (fun st w => f pc ls st w) r) r) A
noncomputable def q_fv (a : qV) (k : qV → Bool) : Bool := q_fn a.1 fun t => q_fn a.2.1 fun r => q_fl a.2.2.1 fun l => q_fl a.2.2.2 fun m => k (t, r, l, m)
noncomputable def q_eq (b : qB) (x y : qL) : Bool := q_fl (q_sub x y) fun d => z_if (q_ge0 b d) (q_ge0 b (q_ng d)) false
noncomputable def q_eq2 (b : qB) (cs : List qL) (x y : qL) : Bool := z_if (q_eq b x y) true (q_fl (q_sub x y) fun d => z_if (q_pr b cs d) (q_pr b cs (q_ng d)) false)
/-- lo ≤ l ≤ hi -/
noncomputable def q_win (b : qB) (cs : List qL) (l : qL) (lo hi : Int) : Bool := z_if (q_pr b cs (q_pl l (Int.neg lo))) (q_pr b cs (q_pl (q_ng l) hi)) false
noncomputable def q_win2 (b : qB) (cs : List qL) (l : qL) (lo hi : Int) : Bool := z_if (q_pr2 b cs (q_pl l (Int.neg lo))) (q_pr2 b cs (q_pl (q_ng l) hi)) false
noncomputable def q_rng (b : qB) (l : qL) (k : Int → Int → Bool) : Bool := q_ob (q_lo b l) fun lo => q_ob (q_hi b l) fun hi => q_fi lo fun lo => q_fi hi fun hi => k lo hi
abbrev q_MIN : Int := Int.negSucc 2147483647
abbrev q_MAX : Int := Int.ofNat 2147483647
abbrev q_LMIN : Int := Int.negSucc 9223372036854775807
abbrev q_LMAX : Int := Int.ofNat 9223372036854775807
/-! to take for granted -/
noncomputable def q_rfk (l : qL) (k : qB → Bool) (ts : List (Nat × Int)) : qB → Bool := List.rec (motive := fun _ => qB → Bool) k
  (fun q _ ih b => z_if (q_is0 (Int.sub (Prod.snd q) (Int.ofNat 1)))
      (Option.rec (motive := fun _ => Bool) (ih b) (fun x => Option.rec (motive := fun _ => Bool) (ih b) (fun h => q_fi (Int.neg h) fun h => z_if (q_le h (Prod.fst x)) (ih b) (q_fi (Prod.snd x) fun y => ih ((Prod.fst q, h, y) :: b))) (q_hi b (q_sub l (q_v (Prod.fst q))))) (q_bx b (Prod.fst q)))
    (z_if (q_is0 (Int.add (Prod.snd q) (Int.ofNat 1)))
      (Option.rec (motive := fun _ => Bool) (ih b) (fun x => Option.rec (motive := fun _ => Bool) (ih b) (fun h => q_fi h fun h => z_if (q_le (Prod.snd x) h) (ih b) (q_fi (Prod.fst x) fun y => ih ((Prod.fst q, y, h) :: b))) (q_hi b (q_add l (q_v (Prod.fst q))))) (q_bx b (Prod.fst q)))
      (ih b))) ts
noncomputable def q_ask (l : qL) (k : qB → List qL → Bool) (b : qB) (cs : List qL) : Bool := z_if (q_pr b cs (q_pl (q_ng l) (Int.negSucc 0))) true
  (z_if (q_one l.2) (q_rfk l (fun b' => k b' cs) l.2 b) (z_if (q_ge0 b l) (q_rfk l (fun b' => k b' cs) l.2 b) (q_rfk l (fun b' => k b' (l :: cs)) l.2 b)))
noncomputable def q_assk (k : qB → List qL → Bool) (ls : List qL) : qB → List qL → Bool := List.rec (motive := fun _ => qB → List qL → Bool) k (fun l _ ih b cs => q_fl l fun l => q_ask l ih b cs) ls
noncomputable def q_asm (ls : List qL) (k : qW → Bool) (w : qW) : Bool := q_cw w fun n b cs fs gs => q_assk (fun b cs => k (n, b, cs, fs, gs)) ls b cs
/-! the heap -/
noncomputable def q_find (b : qB) (p : Nat) (c i : qL) (fs : List qFa) : Option qV := List.rec (motive := fun _ => Option qV) none (fun f _ ih => z_if (Nat.beq (Prod.fst f) p) (z_if (q_eq b f.2.1 c) (z_if (q_eq b f.2.2.1 i) (some f.2.2.2) ih) ih) ih) fs
noncomputable def q_m18 (ts : List (Nat × Int)) : List (Nat × Int) := List.rec (motive := fun _ => List (Nat × Int)) [] (fun q _ ih => z_if (q_is0 (Int.emod (Prod.snd q) (Int.ofNat 18))) ih (q :: ih)) ts
noncomputable def q_r18 (i : qL) : qL := (Int.emod i.1 (Int.ofNat 18), q_m18 i.2)
noncomputable def q_fr (lo hi : Int) (mk : qL → List qL) (k : qW → qL → Bool) (w : qW) : Bool := q_cw w fun n b cs fs gs => q_fn (Nat.succ n) fun n1 => k (n1, (n, lo, hi) :: b, z_cat2 (mk (q_v n)) cs, fs, gs) (q_v n)
noncomputable def q_put (p : Nat) (c i : qL) (a : qV) (k : qW → qV → Bool) (w : qW) : Bool := q_cw w fun n b cs fs gs => k (n, b, cs, (p, c, i, a) :: fs, gs) a
noncomputable def q_new (p : Nat) (c i : qL) (k : qW → qV → Bool) (w : qW) : Bool := q_ob (z_nth q_sps p) fun s =>
  z_if (Nat.beq s.1 1) (q_fi s.2.2.1 fun lo => q_fi s.2.2.2 fun hi => z_if (Nat.beq p 227) (q_cw w fun _ b _ _ _ => z_if (q_eq b i (q_c (Int.ofNat 3072))) (q_fr (Int.ofNat 0) (Int.ofNat 3072) (fun _ => []) (fun w l => q_put p c i (q_vi l) k w) w) (q_fr lo hi (fun _ => []) (fun w l => q_put p c i (q_vi l) k w) w)) (q_fr lo hi (fun _ => []) (fun w l => q_put p c i (q_vi l) k w) w))
  (z_if (Nat.beq s.1 2) (q_fr q_LMIN q_LMAX (fun _ => []) (fun w l => q_put p c i (q_vl l) k w) w)
  (z_if (Nat.beq s.1 3) (q_fn s.2.1 fun r => q_ob (z_nth q_sgl r) fun g => z_if (Nat.beq g 999) (q_fr (Int.ofNat 0) (Int.ofNat 189) (fun _ => []) (fun w l => q_put p c i (q_vr r l) k w) w) (q_fn g fun g => q_put p c i (q_vr r (q_c (Int.ofNat g))) k w))
  (z_if (Nat.beq s.1 4) (q_cw w fun _ b _ _ _ => q_fl (q_r18 i) fun t =>
      z_if (q_and (q_ge0 b t) (q_ge0 b (q_pl (q_ng t) (Int.ofNat 1)))) (q_fr (Int.negSucc 0) (Int.ofNat 7) (fun _ => []) (fun w l => q_put p c i (q_vi l) k w) w)
      (z_if (q_and (q_ge0 b (q_pl t (Int.negSucc 3))) (q_ge0 b (q_pl (q_ng t) (Int.ofNat 7)))) (q_fr (Int.negSucc 0) (Int.ofNat 4) (fun _ => []) (fun w l => q_put p c i (q_vi l) k w) w)
        (q_fr q_MIN q_MAX (fun _ => []) (fun w l => q_put p c i (4, 0, l, i) k w) w)))
    (k w (0, 0, q_0, q_0)))))
noncomputable def q_rd (p : Nat) (c i : qL) (k : qW → qV → Bool) (w : qW) : Bool := q_cw w fun n b cs fs gs => Option.rec (motive := fun _ => Bool) (q_new p c i k w) (fun a => q_fv a fun a => k w a) (q_find b p c i fs)
noncomputable def q_tI (a : qV) : Bool := z_if (Nat.beq a.1 1) true (Nat.beq a.1 4)
noncomputable def q_d18 (ts : List (Nat × Int)) : Bool := List.rec (motive := fun _ => Bool) true (fun q _ ih => z_if (q_is0 (Int.emod (Prod.snd q) (Int.ofNat 18))) ih false) ts
noncomputable def q_fw (b : qB) (cs : List qL) (i : qL) (l : qL) : Bool := q_fl (q_r18 i) fun t =>
  z_if (q_and (q_ge0 b t) (q_ge0 b (q_pl (q_ng t) (Int.ofNat 1)))) (q_win b cs l (Int.negSucc 0) (Int.ofNat 7))
  (z_if (q_and (q_ge0 b (q_pl t (Int.negSucc 1))) (q_ge0 b (q_pl (q_ng t) (Int.ofNat 3)))) true
  (z_if (q_and (q_ge0 b (q_pl t (Int.negSucc 7))) (q_ge0 b (q_pl (q_ng t) (Int.ofNat 17)))) true (q_win b cs l (Int.negSucc 0) (Int.ofNat 4))))
noncomputable def q_fit (b : qB) (cs : List qL) (p : Nat) (i : qL) (a : qV) : Bool := q_ob (z_nth q_sps p) fun s =>
  z_if (Nat.beq s.1 1) (q_and (q_tI a) (q_win b cs a.2.2.1 s.2.2.1 s.2.2.2))
  (z_if (Nat.beq s.1 2) (Nat.beq a.1 2)
  (z_if (Nat.beq s.1 3) (q_and (Nat.beq a.1 3) (Nat.beq a.2.1 s.2.1))
  (z_if (Nat.beq s.1 4) (q_or (q_and (Nat.beq a.1 4) (q_fl (q_sub a.2.2.2 i) fun d => q_and (q_is0 (Int.emod d.1 (Int.ofNat 18))) (q_d18 d.2))) (q_and (q_tI a) (q_fw b cs i a.2.2.1)))
    (Nat.beq s.1 0))))
/-- above or below -/
noncomputable def q_dis (b : qB) (x y : qL) : Bool := q_fl (q_sub x y) fun d => z_if (q_ge0 b (q_pl d (Int.negSucc 0))) true (q_ge0 b (q_pl (q_ng d) (Int.negSucc 0)))
noncomputable def q_drop (b : qB) (p : Nat) (c i : qL) (fs : List qFa) : (List qFa → Bool) → Bool := List.rec (motive := fun _ => (List qFa → Bool) → Bool) (fun k => k []) (fun f _ ih k => z_if (q_and (Nat.beq (Prod.fst f) p) (q_not (q_or (q_dis b f.2.1 c) (q_dis b f.2.2.1 i)))) (ih k) (ih fun t => k (f :: t))) fs
/-- the places that a ghost speaks of: printed -/
def q_gfs : List Nat := [2468256835981809063232453773836025757474103798450369795022913536, 205688069665150755269371147819668813122841983204197482918576128, 205688069665150755269371147819668813122841983204197482918576128, 211312352820057221233768015142862882231669693682437257842130944, 211312352820057224088263400554782644348241632581427530607624192, 205688069665150755269371147819668813122841983204197482918576128, 421249166674228746791672110734681729275580381602196445017243910144, 421249166674228746791672110734681729275580381602196445017243910144, 421249166674228746791672110734681729275580381602196445017243910144, 112987831236963108244429621537500112061781296990625386725376, 113036871094270816687897088642368921955657096642535261995008, 13164149495440742608056441357547446408783842582165281442050867200, 13164149593520457223473328292481656146403630333764585261801406464]
noncomputable def q_gkeep (b : qB) (cs : List qL) (p : Nat) (i : qL) (g : qGh) : Bool :=
  z_if (Nat.beq g.1 0) (q_lc g.2 fun m _ => q_pr b cs (q_sub i m))
  (z_if (Nat.beq g.1 1) (q_lc g.2 fun _ t => q_lc t fun c _ => q_pr b cs (q_sub i c))
  (z_if (Nat.beq g.1 3) (q_lc g.2 fun m _ => z_if (Nat.beq p 207) (q_and (q_pr b cs (q_pl (q_add i (q_sc (Int.ofNat 560) m)) (Int.negSucc 559))) (q_pr b cs (q_sub (q_pl (q_ng i) (Int.ofNat 1119)) (q_sc (Int.ofNat 560) m)))) (q_eq b (q_add i m) (q_c (Int.ofNat 1))))
  (z_if (Nat.beq g.1 6) (q_lc g.2 fun m _ => q_pr b cs (q_sub i m))
  (z_if (Nat.beq g.1 8) (q_lc g.2 fun _ t => q_lc t fun c _ => q_eq b i c)
  (z_if (Nat.beq g.1 11) (q_and (Nat.beq p 213) (q_lc g.2 fun m _ => q_pr b cs (q_sub i m))) false)))))
noncomputable def q_gdrop (b : qB) (cs : List qL) (p : Nat) (i : qL) (gs : List qGh) : (List qGh → Bool) → Bool := List.rec (motive := fun _ => (List qGh → Bool) → Bool) (fun k => k []) (fun g _ ih k => q_ob (z_nth q_gfs (Prod.fst g)) fun m => z_if (q_or (q_not (Nat.testBit m p)) (q_gkeep b cs p i g)) (ih fun t => k (g :: t)) (ih k)) gs
noncomputable def q_wr (m p : Nat) (c i : qL) (a : qV) (k : qW → Bool) (w : qW) : Bool := q_cw w fun n b cs fs gs => q_and (Nat.testBit m p) (q_and (q_fit b cs p i a) (q_drop b p c i fs fun fs => q_gdrop b cs p i gs fun gs => k (n, b, cs, (p, c, i, a) :: fs, gs)))
/-! numbers -/
noncomputable def q_res (l : qL) (k : qW → qL → Bool) (w : qW) : Bool := q_fl l fun l => q_cw w fun _ b cs _ _ => z_if (q_win b cs l q_MIN q_MAX) (k w l) (q_fr q_MIN q_MAX (fun _ => []) k w)
noncomputable def q_any0 (k : qW → qL → Bool) (w : qW) : Bool := q_fr q_MIN q_MAX (fun _ => []) k w
noncomputable def q_mn (a b : Int) : Int := z_if (q_le a b) a b
noncomputable def q_mx (a b : Int) : Int := z_if (q_le a b) b a
noncomputable def q_imul (x y : qL) (k : qW → qL → Bool) (w : qW) : Bool := z_if (z_nil x.2) (q_res (q_sc x.1 y) k w) (z_if (z_nil y.2) (q_res (q_sc y.1 x) k w) (q_cw w fun _ b _ _ _ => q_rng b x fun a1 a2 => q_rng b y fun b1 b2 =>
  q_fi (q_mn (q_mn (Int.mul a1 b1) (Int.mul a1 b2)) (q_mn (Int.mul a2 b1) (Int.mul a2 b2))) fun lo => q_fi (q_mx (q_mx (Int.mul a1 b1) (Int.mul a1 b2)) (q_mx (Int.mul a2 b1) (Int.mul a2 b2))) fun hi =>
    z_if (q_and (q_le q_MIN lo) (q_le hi q_MAX)) (q_fr lo hi (fun _ => []) k w) (q_any0 k w)))
/-- all terms' factors are multiples of k, or none: the two halves of a form -/
noncomputable def q_mul (d : Int) (ts : List (Nat × Int)) : List (Nat × Int) := List.rec (motive := fun _ => List (Nat × Int)) [] (fun q _ ih => z_if (q_is0 (Int.emod (Prod.snd q) d)) ((Prod.fst q, Int.ediv (Prod.snd q) d) :: ih) ih) ts
noncomputable def q_rst (d : Int) (ts : List (Nat × Int)) : List (Nat × Int) := List.rec (motive := fun _ => List (Nat × Int)) [] (fun q _ ih => z_if (q_is0 (Int.emod (Prod.snd q) d)) ih (q :: ih)) ts
noncomputable def q_quo (x : qL) (d : Int) : qL := (Int.ediv x.1 d, q_mul d x.2)
noncomputable def q_rem (x : qL) (d : Int) : qL := (Int.emod x.1 d, q_rst d x.2)
/-- is = true: the rest -/
noncomputable def q_div (is : Bool) (x y : qL) (k : qW → qL → Bool) (w : qW) : Bool := q_cw w fun _ b _ _ _ => q_rng b y fun y1 y2 => q_and (q_or (q_le (Int.ofNat 1) y1) (q_le y2 (Int.negSucc 0)))
  (z_if (q_and (z_nil y.2) (q_and (q_le (Int.ofNat 1) y1) (q_and (q_ge0 b (q_rem x y1)) (q_and (q_ge0 b (q_pl (q_ng (q_rem x y1)) (Int.sub y1 (Int.ofNat 1)))) (q_ge0 b (q_quo x y1)))))) (z_if is (q_fl (q_rem x y1) fun l => k w l) (q_fl (q_quo x y1) fun l => k w l))
  (q_rng b x fun x1 x2 => z_if (q_le (Int.ofNat 1) y1)
    (z_if is (z_if (q_le (Int.ofNat 0) x1) (q_fi (q_mn x2 (Int.sub y2 (Int.ofNat 1))) fun hi => q_fr (Int.ofNat 0) hi (fun l => z_if (z_nil y.2) [] [q_sub (q_pl y (Int.negSucc 0)) l]) k w) (q_fi (Int.sub (Int.ofNat 1) y2) fun lo => q_fi (Int.sub y2 (Int.ofNat 1)) fun hi => q_fr lo hi (fun l => z_if (z_nil y.2) [] [q_sub (q_pl y (Int.negSucc 0)) l]) k w))
      (z_if (q_le (Int.ofNat 0) x1) (q_fi (Int.ediv x1 y2) fun lo => q_fi (Int.ediv x2 y1) fun hi => q_fr lo hi (fun _ => []) k w) (q_any0 k w)))
    (q_any0 k w)))
noncomputable def q_iand (x y : qL) (k : qW → qL → Bool) (w : qW) : Bool := q_cw w fun _ b _ _ _ => q_rng b x fun x1 x2 => q_rng b y fun y1 y2 =>
  z_if (q_le (Int.ofNat 0) y1)
    (z_if (q_le (Int.ofNat 0) x1)
      (z_if (q_and (z_nil y.2) (q_and (q_le x2 y1) (q_or (q_is0 (Int.sub y1 (Int.ofNat 255))) (q_or (q_is0 (Int.sub y1 (Int.ofNat 63))) (q_is0 (Int.sub y1 (Int.ofNat 65535))))))) (k w x)
        (q_fi (q_mn x2 y2) fun hi => q_fr (Int.ofNat 0) hi (fun l => [q_sub x l, q_sub y l]) k w))
      (q_fr (Int.ofNat 0) y2 (fun l => [q_sub y l]) k w))
    (z_if (q_le (Int.ofNat 0) x1) (q_fr (Int.ofNat 0) x2 (fun l => [q_sub x l]) k w) (q_any0 k w))
noncomputable def q_ior (x y : qL) (k : qW → qL → Bool) (w : qW) : Bool := q_cw w fun _ b _ _ _ => q_rng b x fun x1 x2 => q_rng b y fun y1 y2 =>
  z_if (q_and (q_le (Int.ofNat 0) x1) (q_le (Int.ofNat 0) y1)) (q_fi (q_mx x2 y2) fun h => q_fi (Int.sub (Int.ofNat (Nat.pow 2 (Nat.succ (Nat.log2 (Int.toNat h))))) (Int.ofNat 1)) fun hi => z_if (q_le hi q_MAX) (q_fr (Int.ofNat 0) hi (fun _ => []) k w) (q_any0 k w)) (q_any0 k w)
noncomputable def q_ishl (x y : qL) (k : qW → qL → Bool) (w : qW) : Bool := q_cw w fun _ b _ _ _ => q_rng b y fun y1 y2 =>
  z_if (q_and (z_nil x.2) (q_and (q_is0 (Int.sub x.1 (Int.ofNat 1))) (q_and (q_le (Int.ofNat 0) y1) (q_le y2 (Int.ofNat 30))))) (q_fi (Int.ofNat (Nat.pow 2 (Int.toNat y1))) fun lo => q_fi (Int.ofNat (Nat.pow 2 (Int.toNat y2))) fun hi => q_fr lo hi (fun _ => []) k w) (q_any0 k w)
noncomputable def q_ishr (x y : qL) (k : qW → qL → Bool) (w : qW) : Bool := q_cw w fun _ b _ _ _ => q_rng b x fun x1 x2 => q_rng b y fun y1 y2 =>
  z_if (q_and (q_le (Int.ofNat 0) x1) (q_and (q_le (Int.ofNat 0) y1) (q_le y2 (Int.ofNat 31)))) (q_fr (Int.ofNat 0) x2 (fun _ => []) k w) (q_any0 k w)
