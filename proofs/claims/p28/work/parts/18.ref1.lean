/-! the reference: its small methods -/
/-- whether a row is the same from both sides -/
abbrev zFo (c : Nat → Nat) (a n : Nat) : Prop := 1 < n ∧ ∀ k, k < n → c (a + k) = c (a + n - 1 - k)
abbrev zWo (c : Nat → Nat) (F M a n L : Nat) : Nat := n + (if zFo c a n then F else 0) + (if L = c a + 1 then M else 0)
def zRow (f l : Nat) : Nat := (l - 1) * 20 - (l - 1) * (l - 2) / 2 + f
theorem i12 : nI 1 - nI 2 = -nI 1 := by decide
abbrev zCol (m : Nat → Nat) : Nat → Nat := fun i => m (8 + i)
section REF
variable {d : Nat} {pa : Nat → Nat} {h : Nat → Nat → Int32} {m : Nat → Nat}
end REF
