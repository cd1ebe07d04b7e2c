/-! the reference: the texts, a bolt -/
/-- the told phase -/
def zPl (c : Nat → Nat) (L t : Nat) : Nat × Nat × Nat := if c t = 43 then (if 48 + 0 ≤ c (t + 1) ∧ c (t + 1) ≤ 48 + (L - 1) then (1, t + 1 + 1, c (t + 1) - 48) else (0, t + 1, 0)) else (1, t, 0)
/-- the told number's second digit -/
def zMn (c : Nat → Nat) (a t : Nat) : Nat × Nat := if (48 ≤ c t ∧ c t ≤ 57) ∧ 10 * a + c t - 48 ≤ 20 then (10 * a + c t - 48, t + 1) else (a, t)
def zRu (c : Nat → Nat) (L s : Nat) : Nat × Nat × Nat × Nat := if 48 + 1 ≤ c (s + 1) ∧ c (s + 1) ≤ 48 + 9 then ((zPl c L (zMn c (c (s + 1) - 48) (s + 1 + 1)).2).1, (zPl c L (zMn c (c (s + 1) - 48) (s + 1 + 1)).2).2.1, (zMn c (c (s + 1) - 48) (s + 1 + 1)).1, (zPl c L (zMn c (c (s + 1) - 48) (s + 1 + 1)).2).2.2) else (0, s + 1, 0, 0)
section REF14
variable {d : Nat} {pa : Nat → Nat} {h : Nat → Nat → Int32} {pd : Nat → Nat} {ln : Nat}
end REF14
