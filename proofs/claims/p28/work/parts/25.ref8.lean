/-! the reference: its public methods -/
theorem vIn {v : Int32} {l u : Nat} (hl : l < 2147483648) (hu : u < 2147483648) (h1 : ¬ v < nI l) (h2 : ¬ nI u < v) : ∃ k, l ≤ k ∧ k ≤ u ∧ v = nI k := by
  have hl2 : (nI l).toInt ≤ v.toInt := by
    rw [Int32.lt_iff_toInt_lt] at h1; omega
  have hu2 : v.toInt ≤ (nI u).toInt := by
    rw [Int32.lt_iff_toInt_lt] at h2; omega
  rw [nI_toInt (by omega)] at hu2 hl2
  obtain ⟨k, hk, rfl⟩ := nI_of (x := v) (by rw [Int32.lt_iff_toInt_lt]; rw [show (0 : Int32).toInt = 0 from rfl]; omega)
  rw [nI_toInt hk] at hl2 hu2
  exact ⟨k, by omega, by omega, rfl⟩
theorem ng1 : (nI 0 ≤ -nI 1) = False := by decide
theorem ng2 : (nI 0 ≤ -nI 2) = False := by decide
theorem ng3 : (nI 0 ≤ nI 0) = True := by decide
section REF8
variable {d : Nat} {pa : Nat → Nat} {h : Nat → Nat → Int32} {m : Nat → Nat} {P : Nat → Nat → Nat} {n : Nat} {K : Nat → Nat} {ik : Nat} {pd : Nat → Nat} {ln : Nat}
end REF8
