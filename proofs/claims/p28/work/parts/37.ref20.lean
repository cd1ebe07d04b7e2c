/-! the reference: ended -/
/-- the game, played on to its end -/
def zEd (z o : Nat) : Nat → (Nat → Nat) → (Nat → Nat)
  | 0, m => m
  | r + 1, m => if m 2 = 0 then m else zEd z o r (zGo m (zBn m (if m 3 = 0 then z else o)) (zBb m (if m 3 = 0 then z else o)))
theorem nd_0_1 : ((0 : Nat) = 1) = False := by decide
theorem zBn_in {m : Nat → Nat} {g : Nat} (h2 : 1 ≤ m 2) (h5 : 1 ≤ m 5) : 1 ≤ zBn m g ∧ zBn m g ≤ m 2 ∧ zBn m g ≤ m 5 := by
  have := zKn_in (G := min (m 2) (m 5)) (k := zBj m g) (by omega)
  unfold zBn
  omega
section REF20
variable {d : Nat} {pa : Nat → Nat} {h : Nat → Nat → Int32} {m : Nat → Nat} {P : Nat → Nat → Nat} {n : Nat} {K : Nat → Nat} {ik : Nat} {pd : Nat → Nat} {ln : Nat}
end REF20
