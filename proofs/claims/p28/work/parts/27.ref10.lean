/-! the reference: more public methods, 2 -/
theorem nbf0 : narrow .boolean (.int (nI 0)) = .int (nI 0) ∧ fits .boolean (.int (nI 0)) = true := ⟨rfl, rfl⟩
theorem nbf1 : narrow .boolean (.int (nI 1)) = .int (nI 1) ∧ fits .boolean (.int (nI 1)) = true := ⟨rfl, rfl⟩
section REF10
variable {d : Nat} {pa : Nat → Nat} {h : Nat → Nat → Int32} {m : Nat → Nat} {P : Nat → Nat → Nat} {n : Nat} {K : Nat → Nat} {ik : Nat} {pd : Nat → Nat} {ln : Nat}
end REF10
