/-! the reference: its history, beginning again -/
/-- past, a state earlier, up to k -/
def zSh (h : Nat → Nat → Int32) (k : Nat) : Nat → Nat → Int32 := fun a i => if a = 63 ∧ i < k then h 63 (i + 120) else h a i
theorem zSh_0 {h : Nat → Nat → Int32} : zSh h 0 = h := by
  funext a i
  unfold zSh
  rw [if_neg (by omega)]
theorem zSh_step {h : Nat → Nat → Int32} {k : Nat} : qzUp (zSh h k) 63 k (zSh h k 63 (k + 120)) = zSh h (k + 1) := by
  have e : zSh h k 63 (k + 120) = h 63 (k + 120) := by unfold zSh; rw [if_neg (by omega)]
  rw [e]
  funext a i
  unfold qzUp zSh
  by_cases h1 : a = 63
  · subst h1
    by_cases h2 : i = k
    · subst h2
      rw [if_pos ⟨rfl, rfl⟩, if_pos ⟨rfl, by omega⟩]
    · rw [if_neg (fun q => h2 q.2)]
      by_cases h3 : i < k
      · rw [if_pos ⟨rfl, h3⟩, if_pos ⟨rfl, by omega⟩]
      · rw [if_neg (fun q => h3 q.2), if_neg (fun q => h3 (by omega))]
  · rw [if_neg (fun q => h1 q.1), if_neg (fun q => h1 q.1), if_neg (fun q => h1 q.1)]
/-- beginning again: up to k -/
def zBk (m : Nat → Nat) (k : Nat) : Nat → Nat := fun i => if i = 1 ∨ i = 3 ∨ i = 4 ∨ (28 ≤ i ∧ i < k) then 0 else if i = 2 then m 0 else m i
theorem zq_eq {h : Nat → Nat → Int32} {a i : Nat} {v : Int32} : qzUp h a i v a i = v := by simp [qzUp]
section REF6
variable {d : Nat} {pa : Nat → Nat} {h : Nat → Nat → Int32} {m : Nat → Nat}
end REF6
