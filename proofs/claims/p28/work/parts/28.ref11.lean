/-! the reference: looks -/
/-- how many of n places from a on -/
def zCnt (p : Nat → Bool) (a : Nat) : Nat → Nat
  | 0 => 0
  | n + 1 => zCnt p a n + (if p (a + n) then 1 else 0)
theorem zCnt_le {p : Nat → Bool} {a : Nat} : ∀ {n : Nat}, zCnt p a n ≤ n
  | 0 => Nat.le_refl _
  | n + 1 => by
    have := zCnt_le (p := p) (a := a) (n := n)
    unfold zCnt
    split <;> omega
def zChg (m : Nat → Nat) : Nat := zCnt (fun k => !decide (m (8 + k) = m (8 + k - 1))) (m 1 + 1) (m 2 - 1)
def zLeft (m : Nat → Nat) (c : Nat) : Nat := zCnt (fun k => decide (m (8 + k) = c)) (m 1) (m 2)
def zCols (m : Nat → Nat) : Nat := zCnt (fun c => decide (0 < zLeft m c)) 0 6
/-- the longest row of what is left that is the same from both sides, of those ahead of (k0, n0) -/
def zLf (m : Nat → Nat) (r k0 n0 : Nat) : Prop := (1 ≤ m 2 → 1 ≤ r) ∧ r ≤ m 2 ∧ (2 ≤ r → ∃ k, m 1 ≤ k ∧ k + r ≤ m 1 + m 2 ∧ zFo (zCol m) k r) ∧ ∀ k n, m 1 ≤ k → 2 ≤ n → k + n ≤ m 1 + m 2 → zFo (zCol m) k n → (k < k0 ∨ (k = k0 ∧ n < n0)) → n ≤ r
section REF11
variable {d : Nat} {pa : Nat → Nat} {h : Nat → Nat → Int32} {m : Nat → Nat} {P : Nat → Nat → Nat} {n : Nat} {K : Nat → Nat} {ik : Nat} {pd : Nat → Nat} {ln : Nat}
end REF11
