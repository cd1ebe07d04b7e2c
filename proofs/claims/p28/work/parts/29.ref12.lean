/-! the reference: public looks -/
theorem iI_1000 {z : Int} : nI 1000 + iI z = iI (1000 + z) := by
  rw [iI_nat, iI_add]
  rfl
section REF12
variable {d : Nat} {pa : Nat → Nat} {h : Nat → Nat → Int32} {m : Nat → Nat} {P : Nat → Nat → Nat} {n : Nat} {K : Nat → Nat} {ik : Nat} {pd : Nat → Nat} {ln : Nat}
end REF12
