/-! the reference: mirror -/
/-- the state after k exchanges -/
def zMr (m : Nat → Nat) (k : Nat) : Nat → Nat := fun i => if (8 + m 1 ≤ i ∧ i < 8 + m 1 + m 2) ∧ (i - 8 - m 1 < k ∨ m 2 - 1 - (i - 8 - m 1) < k) then m (8 + m 1 + (8 + m 1) + m 2 - 1 - i) else m i
/-- how many places have changed after k exchanges -/
def zMd (m : Nat → Nat) : Nat → Nat
  | 0 => 0
  | k + 1 => zMd m k + (if m (8 + m 1 + k) = m (8 + m 1 + m 2 - 1 - k) then 0 else 2)
theorem zMr_out {m : Nat → Nat} {k i : Nat} (h : ¬ (8 + m 1 ≤ i ∧ i < 8 + m 1 + m 2)) : zMr m k i = m i := by
  unfold zMr
  rw [if_neg (fun z => h z.1)]
theorem zMr_0 {m : Nat → Nat} {i : Nat} : zMr m 0 i = m i := by
  unfold zMr
  rw [if_neg (fun z => by omega)]
theorem zMr_inv {m : Nat → Nat} {k : Nat} (hi : zInv m) : zInv (zMr m k) := by
  obtain ⟨h0, h1, h3, h4, h5, h6, h7, h8, ht, hp⟩ := hi
  have o : ∀ i, (i < 8 ∨ 28 ≤ i) → zMr m k i = m i := fun i hi => zMr_out (by omega)
  refine ⟨?_, ?_, ?_, ?_, ?_, ?_, ?_, fun i hi => ?_, fun t htt => ?_, fun i hi hi2 => ?_⟩
  · rw [o 0 (by omega)]; exact h0
  · rw [o 0 (by omega), o 1 (by omega), o 2 (by omega)]; exact h1
  · rw [o 3 (by omega), o 4 (by omega)]; exact h3
  · rw [o 0 (by omega), o 4 (by omega), o 2 (by omega)]; exact h4
  · rw [o 5 (by omega)]; exact h5
  · rw [o 6 (by omega)]; exact h6
  · rw [o 7 (by omega)]; exact h7
  · unfold zMr
    split
    · have := h8 (8 + m 1 + m 1 + m 2 - 1 - (8 + i)) (by omega)
      rw [show 8 + (8 + m 1 + m 1 + m 2 - 1 - (8 + i)) = 8 + m 1 + (8 + m 1) + m 2 - 1 - (8 + i) by omega] at this
      exact this
    · exact h8 i hi
  · have := ht t htt
    rw [o (28 + 6 * t + 0) (by omega), o (28 + 6 * t + 1) (by omega), o (28 + 6 * t + 2) (by omega), o (28 + 6 * t + 3) (by omega), o (28 + 6 * t + 4) (by omega), o (28 + 6 * t + 5) (by omega), o 4 (by omega)]
    exact this
  · rw [o i (by omega)]; exact hp i hi hi2
section REF21
variable {d : Nat} {pa : Nat → Nat} {h : Nat → Nat → Int32} {m : Nat → Nat} {P : Nat → Nat → Nat} {n : Nat} {K : Nat → Nat} {ik : Nat} {pd : Nat → Nat} {ln : Nat}
end REF21
