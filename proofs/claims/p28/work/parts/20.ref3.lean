/-! the reference: all best leads are laid down -/
section REF3
variable {d : Nat} {pa : Nat → Nat} {h : Nat → Nat → Int32} {m : Nat → Nat}
/-- how far the table is laid down: rows shorter than l, then those from before f on, then the first q pairs of coats -/
def zPr (m : Nat → Nat) (h : Nat → Nat → Int32) (l f q : Nat) : Prop := ∀ f' l' own oth, 1 ≤ l' → f' + l' ≤ m 0 → own ≤ 6 → oth ≤ 6 → (l' < l ∨ (l' = l ∧ f' < f) ∨ (l' = l ∧ f' = f ∧ 7 * own + oth < q)) → h 66 (zAt f' l' own oth) = iI (zL (zCol m) (m 6) (m 7) (m 5) f' l' own oth)
end REF3
