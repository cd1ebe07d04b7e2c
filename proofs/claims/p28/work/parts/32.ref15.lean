/-! the reference: the texts, a bolt, whole -/
theorem zPl_in {c : Nat → Nat} {L t : Nat} : (zPl c L t).1 ≤ 1 ∧ (zPl c L t).2.1 ≤ t + 2 := by
  unfold zPl
  repeat' split
  all_goals simp
theorem zMn_in {c : Nat → Nat} {a t : Nat} (ha : a ≤ 20) : (zMn c a t).1 ≤ 20 ∧ (zMn c a t).2 ≤ t + 1 := by
  unfold zMn
  split
  · rename_i q; exact ⟨q.2, Nat.le_refl _⟩
  · exact ⟨ha, Nat.le_succ _⟩
theorem zRu_in {c : Nat → Nat} {L s : Nat} : (zRu c L s).1 ≤ 1 ∧ (zRu c L s).2.1 ≤ s + 5 ∧ (zRu c L s).2.2.1 ≤ 20 := by
  unfold zRu
  by_cases q : 48 + 1 ≤ c (s + 1) ∧ c (s + 1) ≤ 48 + 9
  · simp only [if_pos q]
    have h1 := zMn_in (c := c) (a := c (s + 1) - 48) (t := s + 1 + 1) (by omega)
    have h2 := zPl_in (c := c) (L := L) (t := (zMn c (c (s + 1) - 48) (s + 1 + 1)).2)
    exact ⟨h2.1, by omega, h1.1⟩
  · simp only [if_neg q]
    exact ⟨by omega, by omega, by omega⟩
/-- what stands behind the letters -/
def zBr (c : Nat → Nat) (s : Nat) : Nat × Nat × Nat × Nat := if s ≤ 6 ∧ c s = 42 then zRu c s s else (1, s, s, 0)
/-- the letters -/
def zLt (c : Nat → Nat) : Nat → Nat → Nat
  | 0, s => s
  | r + 1, s => if 97 ≤ c s ∧ c s ≤ 102 then zLt c r (s + 1) else s
theorem zLt_in {c : Nat → Nat} : ∀ {r s : Nat}, s ≤ zLt c r s ∧ zLt c r s ≤ s + r := by
  intro r
  induction r with
  | zero => intro s; exact ⟨Nat.le_refl _, Nat.le_refl _⟩
  | succ r ih =>
    intro s
    unfold zLt
    split
    · have := ih (s := s + 1); omega
    · omega
/-- a bolt on the pad: whether it is one so far, the place behind, the told number, the told phase; the letters stand in zLt -/
def zBo (c : Nat → Nat) : Nat × Nat × Nat × Nat := if 97 ≤ c 0 ∧ c 0 ≤ 102 then zBr c (zLt c 19 1) else (0, 0, 0, 0)
theorem zBr_in {c : Nat → Nat} {s : Nat} (hs : s ≤ 20) : (zBr c s).1 ≤ 1 ∧ (zBr c s).2.1 ≤ s + 5 ∧ (zBr c s).2.2.1 ≤ 20 := by
  unfold zBr
  split
  · exact zRu_in
  · exact ⟨Nat.le_refl _, Nat.le_add_right _ _, hs⟩
theorem zBo_in {c : Nat → Nat} : (zBo c).1 ≤ 1 ∧ (zBo c).2.1 ≤ 25 ∧ (zBo c).2.2.1 ≤ 20 := by
  unfold zBo
  split
  · have h1 := zLt_in (c := c) (r := 19) (s := 1)
    have h2 := zBr_in (c := c) (s := zLt c 19 1) (by omega)
    exact ⟨h2.1, by omega, h2.2.2⟩
  · exact ⟨by decide, by decide, by decide⟩
section REF15
variable {d : Nat} {pa : Nat → Nat} {h : Nat → Nat → Int32} {pd : Nat → Nat} {ln : Nat}
end REF15
