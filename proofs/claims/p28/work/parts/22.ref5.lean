/-! the reference: the choice of a cut -/
theorem zn4 {x : Nat} (h : x < 1000) : (nI x = -nI 4) = False := by
  refine propext ⟨fun q => ?_, fun q => q.elim⟩
  have h1 : (nI x).toInt = (x : Int) := nI_toInt (by omega)
  have h2 : (-nI 4).toInt = -4 := by decide
  rw [q, h2] at h1
  omega
/-- the first greatest among the places 0 to n -/
def zSel (v : Nat → Int) : Nat → Nat × Int
  | 0 => (0, v 0)
  | n + 1 => if (zSel v n).2 < v (n + 1) then (n + 1, v (n + 1)) else zSel v n
theorem zSel_in {v : Nat → Int} : ∀ {n : Nat}, (zSel v n).1 ≤ n ∧ (zSel v n).2 = v (zSel v n).1
  | 0 => ⟨Nat.le_refl _, rfl⟩
  | n + 1 => by
    unfold zSel
    split
    · exact ⟨Nat.le_refl _, rfl⟩
    · exact ⟨Nat.le_succ_of_le (zSel_in (n := n)).1, (zSel_in (n := n)).2⟩
/-- a cut as one number; its stripes and its side by the place in the order -/
def zKn (G k : Nat) : Nat := k % G + 1
def zKb (G k : Nat) : Nat := if k < G then 1 else 0
def zCd (G k : Nat) : Nat := zKn G k + (if zKb G k = 0 then 10 else 0)
def zVal (m : Nat → Nat) (g k : Nat) : Int :=
  if g = 1 then ((zWo (zCol m) (m 6) (m 7) (if zKb (min (m 2) (m 5)) k = 0 then m 1 + m 2 - zKn (min (m 2) (m 5)) k else m 1) (zKn (min (m 2) (m 5)) k) (m (28 + 6 * m 3 + 3)) : Nat) : Int)
  else zCand (zCol m) (m 6) (m 7) (m 5) (m 1) (m 2) (m (28 + 6 * m 3 + 3)) (m (28 + 6 * (1 - m 3) + 3)) (zKn (min (m 2) (m 5)) k) (zKb (min (m 2) (m 5)) k)
theorem zVal_bd {m : Nat → Nat} {g k : Nat} (h6 : m 6 ≤ 9) (h7 : m 7 ≤ 9) (h5 : 1 ≤ m 5 ∧ m 5 ≤ 5) (h2 : 1 ≤ m 2) (h20 : m 2 ≤ 20) : -1000 ≤ zVal m g k ∧ zVal m g k ≤ 1000 := by
  have hn : 1 ≤ zKn (min (m 2) (m 5)) k ∧ zKn (min (m 2) (m 5)) k ≤ m 2 := by
    have := Nat.mod_lt k (show 0 < min (m 2) (m 5) by omega)
    unfold zKn
    omega
  unfold zVal
  split
  · have := zWo_le (c := zCol m) (F := m 6) (M := m 7) (a := (if zKb (min (m 2) (m 5)) k = 0 then m 1 + m 2 - zKn (min (m 2) (m 5)) k else m 1)) (n := zKn (min (m 2) (m 5)) k) (L := m (28 + 6 * m 3 + 3)) h6 h7
    omega
  · have := zCand_bd (c := zCol m) (F := m 6) (M := m 7) (G := m 5) h6 h7 h5.1 (f := m 1) (l := m 2) (own := m (28 + 6 * m 3 + 3)) (oth := m (28 + 6 * (1 - m 3) + 3)) (k := zKn (min (m 2) (m 5)) k) (b := zKb (min (m 2) (m 5)) k) hn.1 hn.2
    omega
section REF5
variable {d : Nat} {pa : Nat → Nat} {h : Nat → Nat → Int32} {m : Nat → Nat}
/-- the chosen place, its stripes and its side -/
def zBj (m : Nat → Nat) (g : Nat) : Nat := (zSel (zVal m g) (2 * min (m 2) (m 5) - 1)).1
def zBn (m : Nat → Nat) (g : Nat) : Nat := zKn (min (m 2) (m 5)) (zBj m g)
def zBb (m : Nat → Nat) (g : Nat) : Nat := zKb (min (m 2) (m 5)) (zBj m g)
def zBest (m : Nat → Nat) (g : Nat) : Nat := zCd (min (m 2) (m 5)) (zBj m g)
theorem zKn_in {G k : Nat} (h : 1 ≤ G) : 1 ≤ zKn G k ∧ zKn G k ≤ G := by
  have := Nat.mod_lt k (show 0 < G by omega)
  unfold zKn
  omega
theorem zCd_le {G k : Nat} (h : 1 ≤ G) (h5 : G ≤ 5) : zCd G k ≤ 15 := by
  have := zKn_in (k := k) h
  unfold zCd
  split <;> omega
end REF5
