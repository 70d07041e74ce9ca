/-! all contracts of a table hold -/
section
variable {S : Nat → Int32} {Ms : List zM} {Cd : List (List qCon)}
/-- taken by the checker, or known otherwise -/
def q_tok (S : Nat → Int32) (Ms : List zM) (Cd : List (List qCon)) (N : zM) (C : qCon) : Prop := q_con Ms Cd N C = true ∨ ∀ (v0 : Nat → Int) (cas : List zV) (X : zH), q_entry S C v0 cas X → 1 ≤ q_ev v0 (q_dl C) → zCalled S (q_ev v0 (q_dl C)).toNat N cas X (q_LC S C X v0)
theorem q_calls_all (hb : q_base' Ms) (hT : ∀ (a1 : Nat) (N : zM), Ms[a1]? = some N → ∀ C ∈ (Cd[a1]?).getD [], q_tok S Ms Cd N C) : ∀ D : Int, q_calls S Ms Cd D := by
  have key : ∀ (n : Nat) (D : Int), D.toNat ≤ n → q_calls S Ms Cd D := by
    intro n
    induction n with
    | zero => intro D hD a1 N hN C hC v0 cas X hen h1 h2; omega
    | succ n ih =>
      intro D hD a1 N hN C hC v0 cas X hen h1 h2
      rcases hT a1 N hN C hC with h | h
      · exact q_con_ok hb (hb.2.2 a1 N hN) h (ih _ (by omega)) hen h1
      · exact h v0 cas X hen h1
  exact fun D => key D.toNat D (Nat.le_refl _)
end
