/-! the reference: fault -/
section REF16
variable {d : Nat} {pa : Nat → Nat} {h : Nat → Nat → Int32} {m : Nat → Nat} {P : Nat → Nat → Nat} {n : Nat} {K : Nat → Nat} {ik : Nat} {pd : Nat → Nat} {ln : Nat}
theorem zAc_in {c : Nat → Nat} : ∀ (r : Nat) (p : Nat × Nat), p.1 ≤ 1 → (zAc c ln r p).1 ≤ 1 := by
  intro r
  induction r with
  | zero => intro p hp; exact hp
  | succ r ih =>
    intro p hp
    unfold zAc
    split
    · exact ih _ zTc_in.1
    · exact hp
/-- the cuts on the pad: whether they are, and the place behind -/
def zCu (c : Nat → Nat) (ln : Nat) : Nat × Nat := zAc c ln ln (zTc c 0)
theorem zCu_in {c : Nat → Nat} : (zCu c ln).1 ≤ 1 := zAc_in ln _ zTc_in.1
end REF16
